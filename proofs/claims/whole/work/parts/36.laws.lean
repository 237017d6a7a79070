/-! what a law gives -/
section tw_s36
variable {L : Nat} {xs : Nat → Int32} {σ : tw_Mem} {x y w : Int32} {n r i c k h q a b e : Nat}
theorem tw_swz {d m i pc ln a b lo : Nat} {ts : List Nat} {ls st : List Value} {Q : Option Value → tw_Mem → Prop} {u : Int32} {dflt lo1 hi : Int} {offs : Array Int} {t : Nat} (h : tw_fetch m i = some (pc, ln, .tableswitch dflt lo1 hi offs, a, b, nI lo, ts)) {j : Nat} (hj : u = nI j) (hj1 : lo ≤ j) (hj2 : j ≤ b) (hb : b < 2147483648) (ht : ts[j - lo]? = some t) (kk : tw_P L xs d m t ls st σ Q) : tw_P L xs d m i ls (.int u :: st) σ Q := by
  subst hj
  refine tw_onestep h ?_ kk
  have e0 : (nI j).toInt = (j : Int) := nI_toInt (by omega)
  have e1 : (nI lo).toInt = (lo : Int) := nI_toInt (by omega)
  show (if (nI j).toInt < (nI lo).toInt ∨ (b : Int) < (nI j).toInt then tw_go a ls st none σ else (match ts[((nI j).toInt - (nI lo).toInt).toNat]? with
    | some t => tw_go t ls st none σ
    | none => none)) = _
  rw [e0, e1, if_neg (by omega), show ((j : Int) - lo).toNat = j - lo by omega, ht]
  rfl
theorem tw_swoz {d m i pc ln a b lo : Nat} {ts : List Nat} {ls st : List Value} {Q : Option Value → tw_Mem → Prop} {u : Int32} {dflt lo1 hi : Int} {offs : Array Int} (h : tw_fetch m i = some (pc, ln, .tableswitch dflt lo1 hi offs, a, b, nI lo, ts)) {j : Nat} (hj : u = nI j) (hj1 : j < lo ∨ (b < j ∧ j < 2147483648)) (hb : lo ≤ b ∧ b < 2147483648) (kk : tw_P L xs d m a ls st σ Q) : tw_P L xs d m i ls (.int u :: st) σ Q := by
  subst hj
  refine tw_onestep h ?_ kk
  have e0 : (nI j).toInt = (j : Int) := nI_toInt (by omega)
  have e1 : (nI lo).toInt = (lo : Int) := nI_toInt (by omega)
  show (if (nI j).toInt < (nI lo).toInt ∨ (b : Int) < (nI j).toInt then tw_go a ls st none σ else (match ts[((nI j).toInt - (nI lo).toInt).toNat]? with
    | some t => tw_go t ls st none σ
    | none => none)) = _
  rw [e0, e1, if_pos (by omega)]
  rfl
theorem tw_ndiv {a b : Nat} (ha : a < 2147483648) (hb : b < 2147483648) : nI a / nI b = nI (a / b) := by
  have hd : a / b ≤ a := Nat.div_le_self a b
  apply Int32.toInt_inj.mp
  rw [Int32.toInt_div, tw_ntoI ha, tw_ntoI hb, tw_ntoI (by omega), Int.tdiv_eq_ediv_of_nonneg (by omega), Int.bmod_eq_of_le]
  · rfl
  · have : (0 : Int) ≤ (a : Int) / (b : Int) := Int.natCast_nonneg (a / b)
    omega
  · have : ((a : Int) / (b : Int)) = ((a / b : Nat) : Int) := rfl
    omega
theorem tw_nrem {a b : Nat} (ha : a < 2147483648) (hb : b < 2147483648) : nI a - nI a / nI b * nI b = nI (a % b) := by
  have h1 : a / b * b ≤ a := Nat.div_mul_le_self a b
  have h2 := Nat.div_add_mod a b
  rw [Nat.mul_comm] at h2
  rw [tw_ndiv ha hb, tw_nmul, tw_nsub h1, show a - a / b * b = a % b by omega]
def tw_rvT (v : Nat) : Nat := if v = 1 then 2 else if v = 2 then 1 else v
/-- what a law's tree gives: at most f deep, from node nd, for card c and pick p -/
def tw_lv (K N A S : Nat → Nat) (n : Nat) : Nat → Nat → Nat → Nat → Nat
  | 0, _, _, _ => 0
  | f + 1, nd, c, p =>
    if K nd = 98 then 2 else if K nd = 102 then 1 else if K nd = 104 then 3
    else if K nd = 107 then (if p / N nd % 2 = 0 then tw_lv K N A S n f (A nd) c p else tw_lv K N A S n f (S nd) c p)
    else if K nd = 99 then (if c < N nd then tw_lv K N A S n f (A nd) c p else tw_lv K N A S n f (S nd) c p)
    else if K nd = 120 then (if p % N nd = 0 then tw_lv K N A S n f (S nd) c p else tw_lv K N A S n f (A nd) c p)
    else if K nd = 115 then tw_lv K N A S n f (A nd) c (p + N nd)
    else if K nd = 100 then tw_lv K N A S n f (A nd) c (p + c)
    else if K nd = 109 then tw_lv K N A S n f (A nd) (n - 1 - c) p
    else if K nd = 114 then tw_rvT (tw_lv K N A S n f (A nd) c p)
    else if K nd = 116 then (if tw_lv K N A S n f (A nd) c p = 0 then tw_lv K N A S n f (S nd) c p else tw_lv K N A S n f (A nd) c p)
    else 0
theorem tw_ite_le {P : Prop} [Decidable P] {a b : Nat} (ha : a ≤ 3) (hb : b ≤ 3) : (if P then a else b) ≤ 3 := by split <;> assumption
theorem tw_lv_le {K N A S : Nat → Nat} {n : Nat} : ∀ f nd c p, tw_lv K N A S n f nd c p ≤ 3
  | 0, _, _, _ => by rw [tw_lv]; omega
  | f + 1, nd, c, p => by
    have ih := @tw_lv_le K N A S n f
    have h2 : ∀ x y z, tw_rvT (tw_lv K N A S n f x y z) ≤ 3 := fun x y z => by unfold tw_rvT; exact tw_ite_le (by decide) (tw_ite_le (by decide) (ih _ _ _))
    rw [tw_lv]
    exact tw_ite_le (by decide) (tw_ite_le (by decide) (tw_ite_le (by decide) (tw_ite_le (tw_ite_le (ih _ _ _) (ih _ _ _)) (tw_ite_le (tw_ite_le (ih _ _ _) (ih _ _ _)) (tw_ite_le (tw_ite_le (ih _ _ _) (ih _ _ _)) (tw_ite_le (ih _ _ _) (tw_ite_le (ih _ _ _) (tw_ite_le (ih _ _ _) (tw_ite_le (h2 _ _ _) (tw_ite_le (tw_ite_le (ih _ _ _) (ih _ _ _)) (Nat.zero_le _)))))))))))
def tw_lvm (σ : tw_Mem) (n f nd c p : Nat) : Nat := tw_lv (fun j => (σ 99 j).toNatClampNeg) (fun j => (σ 100 j).toNatClampNeg) (fun j => (σ 101 j).toNatClampNeg) (fun j => (σ 102 j).toNatClampNeg) n f nd c p
theorem tw_lvm_le {σ : tw_Mem} {n f nd c p : Nat} : tw_lvm σ n f nd c p ≤ 3 := tw_lv_le f nd c p
set_option maxHeartbeats 4000000 in
set_option maxRecDepth 100000 in
theorem tw_e_reversed (ha : a ≤ 3) : tw_E L xs 0 59 [.int (nI a)] σ (fun v σ1 => v = some (.int (nI (tw_rvT a))) ∧ σ = σ1) := by
  show tw_P L xs _ 59 0 [.int (nI a)] [] σ _
  refine tw_sg 2 (i1 := 2) (ls1 := [.int (nI a)]) (st1 := [.int (nI 1), .int (nI a)]) (σ1 := σ) rfl ?_
  refine tw_bi (c := .ne) rfl (fun h1 => ?_) (fun h1 => ?_)
  · rw [tw_cne] at h1; have h1n := h1; rw [tw_neq (by omega) (by omega)] at h1n
    refine tw_sg 2 (i1 := 7) (ls1 := [.int (nI a)]) (st1 := [.int (nI 2), .int (nI a)]) (σ1 := σ) rfl ?_
    refine tw_bi (c := .ne) rfl (fun h2 => ?_) (fun h2 => ?_)
    · rw [tw_cne] at h2; have h2n := h2; rw [tw_neq (by omega) (by omega)] at h2n
      refine tw_sg 1 (i1 := 11) (ls1 := [.int (nI a)]) (st1 := [.int (nI a)]) (σ1 := σ) rfl ?_
      refine tw_ri rfl (rfl) ?_
      exact ⟨by unfold tw_rvT; simp [*], rfl⟩
    · rw [tw_cne'] at h2; have h2n := h2; rw [tw_neq (by omega) (by omega)] at h2n
      refine tw_sg 2 (i1 := 11) (ls1 := [.int (nI a)]) (st1 := [.int (nI 1)]) (σ1 := σ) rfl ?_
      refine tw_ri rfl (rfl) ?_
      exact ⟨by unfold tw_rvT; simp [*], rfl⟩
  · rw [tw_cne'] at h1; have h1n := h1; rw [tw_neq (by omega) (by omega)] at h1n
    refine tw_sg 1 (i1 := 4) (ls1 := [.int (nI a)]) (st1 := [.int (nI 2)]) (σ1 := σ) rfl ?_
    refine tw_ri rfl (rfl) ?_
    exact ⟨by unfold tw_rvT; simp [*], rfl⟩
set_option maxHeartbeats 4000000 in
set_option maxRecDepth 100000 in
theorem tw_e_valueOf {L : Nat} {xs : Nat → Int32} {σ μ : tw_Mem} {n k : Nat} (h10 : n ≤ 10) (hk : k ≤ 80) (h13 : σ 13 4 = nI k) (hμ : ∀ k j, 13 ≤ k → k ≤ 17 → σ k j = μ k j) : ∀ (f e nd c p : Nat), e + f = 7 → tw_tree μ 6 0 k f nd → c < n → p + 100 * f ≤ 100000 → tw_E L xs (f + 1) 56 [.ref 13, .int (nI nd), .int (nI c), .int (nI p), .int (nI n), .int (nI e)] σ (fun v σ1 => v = some (.int (nI (tw_lvm μ n f nd c p))) ∧ σ = σ1) := by
  intro f
  induction f with
  | zero =>
    intro e nd c p hf ht hc hp
    exact absurd ht (fun h => h)
  | succ f ih =>
    intro e nd c p hf ht hc hp
    obtain ⟨hnd, ch, hch, e14, e99, hh⟩ := ht
    have m99 : μ 99 nd = nI ch := e99
    have e14 : σ 14 nd = nI ch := (hμ 14 nd (by omega) (by omega)).trans e14
    have eK : (μ 99 nd).toNatClampNeg = ch := by rw [m99]; exact tw_nclamp (by omega)
    rcases hh with hl | ⟨ho, ⟨q, hq, e15, e100, hq1⟩, ⟨a, e16, e101, hta⟩, hs⟩
    · rcases hl with rfl | rfl | rfl | rfl
      · skip
        show tw_P L xs _ 56 0 [.ref 13, .int (nI nd), .int (nI c), .int (nI p), .int (nI n), .int (nI e), tw_U, tw_U, tw_U, tw_U, tw_U] [] σ _
        refine tw_sg 1 (i1 := 1) (ls1 := [.ref 13, .int (nI nd), .int (nI c), .int (nI p), .int (nI n), .int (nI e), tw_U, tw_U, tw_U, tw_U, tw_U]) (st1 := [.int (nI nd)]) (σ1 := σ) rfl ?_
        refine tw_bzF (c := .lt) rfl (by rw [tw_clt', tw_nlt (by omega) (by omega)] <;> omega) ?_
        show tw_P L xs _ 56 2 [.ref 13, .int (nI nd), .int (nI c), .int (nI p), .int (nI n), .int (nI e), tw_U, tw_U, tw_U, tw_U, tw_U] [] σ _
        refine tw_sgn 3 (i1 := 5) (ls0 := [.ref 13, .int (nI nd), .int (nI c), .int (nI p), .int (nI n), .int (nI e), tw_U, tw_U, tw_U, tw_U, tw_U]) (st0 := [.int (σ 13 4), .int (nI nd)]) (σ0 := σ) (ls1 := [.ref 13, .int (nI nd), .int (nI c), .int (nI p), .int (nI n), .int (nI e), tw_U, tw_U, tw_U, tw_U, tw_U]) (st1 := [.int (nI k), .int (nI nd)]) (σ1 := σ) rfl (rfl) (by simp only [h13, tw_nadd, tw_nmul]) (rfl) ?_
        refine tw_biF (c := .ge) rfl (by rw [tw_cge', tw_nle (by omega) (by omega)] <;> omega) ?_
        show tw_P L xs _ 56 6 [.ref 13, .int (nI nd), .int (nI c), .int (nI p), .int (nI n), .int (nI e), tw_U, tw_U, tw_U, tw_U, tw_U] [] σ _
        refine tw_sg 2 (i1 := 8) (ls1 := [.ref 13, .int (nI nd), .int (nI c), .int (nI p), .int (nI n), .int (nI e), tw_U, tw_U, tw_U, tw_U, tw_U]) (st1 := [.int (nI 80), .int (nI nd)]) (σ1 := σ) rfl ?_
        refine tw_biF (c := .ge) rfl (by rw [tw_cge', tw_nle (by omega) (by omega)] <;> omega) ?_
        show tw_P L xs _ 56 9 [.ref 13, .int (nI nd), .int (nI c), .int (nI p), .int (nI n), .int (nI e), tw_U, tw_U, tw_U, tw_U, tw_U] [] σ _
        refine tw_sg 2 (i1 := 11) (ls1 := [.ref 13, .int (nI nd), .int (nI c), .int (nI p), .int (nI n), .int (nI e), tw_U, tw_U, tw_U, tw_U, tw_U]) (st1 := [.int (nI 6), .int (nI e)]) (σ1 := σ) rfl ?_
        refine tw_biT (c := .le) rfl (by rw [tw_cle, tw_nle (by omega) (by omega)] <;> omega) ?_
        show tw_P L xs _ 56 14 [.ref 13, .int (nI nd), .int (nI c), .int (nI p), .int (nI n), .int (nI e), tw_U, tw_U, tw_U, tw_U, tw_U] [] σ _
        refine tw_sg 3 (i1 := 17) (ls1 := [.ref 13, .int (nI nd), .int (nI c), .int (nI p), .int (nI n), .int (nI e), tw_U, tw_U, tw_U, tw_U, tw_U]) (st1 := [.int (nI nd), .ref 16]) (σ1 := σ) rfl ?_
        refine tw_al (k := 16) (j := nd) (len := 80) rfl rfl rfl rfl (rfl) (by omega) (by decide) ?_
        refine tw_sg 4 (i1 := 22) (ls1 := [.ref 13, .int (nI nd), .int (nI c), .int (nI p), .int (nI n), .int (nI e), .int (σ 16 nd), tw_U, tw_U, tw_U, tw_U]) (st1 := [.int (nI nd), .ref 17]) (σ1 := σ) rfl ?_
        refine tw_al (k := 17) (j := nd) (len := 80) rfl rfl rfl rfl (rfl) (by omega) (by decide) ?_
        refine tw_sg 4 (i1 := 27) (ls1 := [.ref 13, .int (nI nd), .int (nI c), .int (nI p), .int (nI n), .int (nI e), .int (σ 16 nd), .int (σ 17 nd), tw_U, tw_U, tw_U]) (st1 := [.int (nI nd), .ref 15]) (σ1 := σ) rfl ?_
        refine tw_al (k := 15) (j := nd) (len := 80) rfl rfl rfl rfl (rfl) (by omega) (by decide) ?_
        refine tw_sgn 8 (i1 := 36) (ls0 := [.ref 13, .int (nI nd), .int (nI c), .int (nI p), .int (nI n), .int (nI e), .int (σ 16 nd), .int (σ 17 nd), .int (σ 15 nd), .int (nI e + nI 1), tw_U]) (st0 := [.int (nI nd), .ref 14]) (σ0 := σ) (ls1 := [.ref 13, .int (nI nd), .int (nI c), .int (nI p), .int (nI n), .int (nI e), .int (σ 16 nd), .int (σ 17 nd), .int (σ 15 nd), .int (nI (e + 1)), tw_U]) (st1 := [.int (nI nd), .ref 14]) (σ1 := σ) rfl (by simp only [tw_nadd, tw_nmul]) (rfl) (rfl) ?_
        refine tw_alc (k := 14) (j := nd) (len := 80) rfl rfl rfl (rfl) (by omega) (by decide) ?_
        rw [e14]
        refine tw_swz (lo := 98) (j := 105) rfl (rfl) (by decide) (by decide) (by decide) rfl ?_
        show tw_P L xs _ 56 146 [.ref 13, .int (nI nd), .int (nI c), .int (nI p), .int (nI n), .int (nI e), .int (σ 16 nd), .int (σ 17 nd), .int (σ 15 nd), .int (nI (e + 1)), tw_U] [] σ _
        refine tw_sg 1 (i1 := 147) (ls1 := [.ref 13, .int (nI nd), .int (nI c), .int (nI p), .int (nI n), .int (nI e), .int (σ 16 nd), .int (σ 17 nd), .int (σ 15 nd), .int (nI (e + 1)), tw_U]) (st1 := [.int (nI 0)]) (σ1 := σ) rfl ?_
        refine tw_ri rfl (rfl) ?_
        exact ⟨by unfold tw_lvm; rw [tw_lv]; simp [eK]; try rfl, rfl⟩
      · skip
        show tw_P L xs _ 56 0 [.ref 13, .int (nI nd), .int (nI c), .int (nI p), .int (nI n), .int (nI e), tw_U, tw_U, tw_U, tw_U, tw_U] [] σ _
        refine tw_sg 1 (i1 := 1) (ls1 := [.ref 13, .int (nI nd), .int (nI c), .int (nI p), .int (nI n), .int (nI e), tw_U, tw_U, tw_U, tw_U, tw_U]) (st1 := [.int (nI nd)]) (σ1 := σ) rfl ?_
        refine tw_bzF (c := .lt) rfl (by rw [tw_clt', tw_nlt (by omega) (by omega)] <;> omega) ?_
        show tw_P L xs _ 56 2 [.ref 13, .int (nI nd), .int (nI c), .int (nI p), .int (nI n), .int (nI e), tw_U, tw_U, tw_U, tw_U, tw_U] [] σ _
        refine tw_sgn 3 (i1 := 5) (ls0 := [.ref 13, .int (nI nd), .int (nI c), .int (nI p), .int (nI n), .int (nI e), tw_U, tw_U, tw_U, tw_U, tw_U]) (st0 := [.int (σ 13 4), .int (nI nd)]) (σ0 := σ) (ls1 := [.ref 13, .int (nI nd), .int (nI c), .int (nI p), .int (nI n), .int (nI e), tw_U, tw_U, tw_U, tw_U, tw_U]) (st1 := [.int (nI k), .int (nI nd)]) (σ1 := σ) rfl (rfl) (by simp only [h13, tw_nadd, tw_nmul]) (rfl) ?_
        refine tw_biF (c := .ge) rfl (by rw [tw_cge', tw_nle (by omega) (by omega)] <;> omega) ?_
        show tw_P L xs _ 56 6 [.ref 13, .int (nI nd), .int (nI c), .int (nI p), .int (nI n), .int (nI e), tw_U, tw_U, tw_U, tw_U, tw_U] [] σ _
        refine tw_sg 2 (i1 := 8) (ls1 := [.ref 13, .int (nI nd), .int (nI c), .int (nI p), .int (nI n), .int (nI e), tw_U, tw_U, tw_U, tw_U, tw_U]) (st1 := [.int (nI 80), .int (nI nd)]) (σ1 := σ) rfl ?_
        refine tw_biF (c := .ge) rfl (by rw [tw_cge', tw_nle (by omega) (by omega)] <;> omega) ?_
        show tw_P L xs _ 56 9 [.ref 13, .int (nI nd), .int (nI c), .int (nI p), .int (nI n), .int (nI e), tw_U, tw_U, tw_U, tw_U, tw_U] [] σ _
        refine tw_sg 2 (i1 := 11) (ls1 := [.ref 13, .int (nI nd), .int (nI c), .int (nI p), .int (nI n), .int (nI e), tw_U, tw_U, tw_U, tw_U, tw_U]) (st1 := [.int (nI 6), .int (nI e)]) (σ1 := σ) rfl ?_
        refine tw_biT (c := .le) rfl (by rw [tw_cle, tw_nle (by omega) (by omega)] <;> omega) ?_
        show tw_P L xs _ 56 14 [.ref 13, .int (nI nd), .int (nI c), .int (nI p), .int (nI n), .int (nI e), tw_U, tw_U, tw_U, tw_U, tw_U] [] σ _
        refine tw_sg 3 (i1 := 17) (ls1 := [.ref 13, .int (nI nd), .int (nI c), .int (nI p), .int (nI n), .int (nI e), tw_U, tw_U, tw_U, tw_U, tw_U]) (st1 := [.int (nI nd), .ref 16]) (σ1 := σ) rfl ?_
        refine tw_al (k := 16) (j := nd) (len := 80) rfl rfl rfl rfl (rfl) (by omega) (by decide) ?_
        refine tw_sg 4 (i1 := 22) (ls1 := [.ref 13, .int (nI nd), .int (nI c), .int (nI p), .int (nI n), .int (nI e), .int (σ 16 nd), tw_U, tw_U, tw_U, tw_U]) (st1 := [.int (nI nd), .ref 17]) (σ1 := σ) rfl ?_
        refine tw_al (k := 17) (j := nd) (len := 80) rfl rfl rfl rfl (rfl) (by omega) (by decide) ?_
        refine tw_sg 4 (i1 := 27) (ls1 := [.ref 13, .int (nI nd), .int (nI c), .int (nI p), .int (nI n), .int (nI e), .int (σ 16 nd), .int (σ 17 nd), tw_U, tw_U, tw_U]) (st1 := [.int (nI nd), .ref 15]) (σ1 := σ) rfl ?_
        refine tw_al (k := 15) (j := nd) (len := 80) rfl rfl rfl rfl (rfl) (by omega) (by decide) ?_
        refine tw_sgn 8 (i1 := 36) (ls0 := [.ref 13, .int (nI nd), .int (nI c), .int (nI p), .int (nI n), .int (nI e), .int (σ 16 nd), .int (σ 17 nd), .int (σ 15 nd), .int (nI e + nI 1), tw_U]) (st0 := [.int (nI nd), .ref 14]) (σ0 := σ) (ls1 := [.ref 13, .int (nI nd), .int (nI c), .int (nI p), .int (nI n), .int (nI e), .int (σ 16 nd), .int (σ 17 nd), .int (σ 15 nd), .int (nI (e + 1)), tw_U]) (st1 := [.int (nI nd), .ref 14]) (σ1 := σ) rfl (by simp only [tw_nadd, tw_nmul]) (rfl) (rfl) ?_
        refine tw_alc (k := 14) (j := nd) (len := 80) rfl rfl rfl (rfl) (by omega) (by decide) ?_
        rw [e14]
        refine tw_swz (lo := 98) (j := 102) rfl (rfl) (by decide) (by decide) (by decide) rfl ?_
        show tw_P L xs _ 56 38 [.ref 13, .int (nI nd), .int (nI c), .int (nI p), .int (nI n), .int (nI e), .int (σ 16 nd), .int (σ 17 nd), .int (σ 15 nd), .int (nI (e + 1)), tw_U] [] σ _
        refine tw_sg 1 (i1 := 39) (ls1 := [.ref 13, .int (nI nd), .int (nI c), .int (nI p), .int (nI n), .int (nI e), .int (σ 16 nd), .int (σ 17 nd), .int (σ 15 nd), .int (nI (e + 1)), tw_U]) (st1 := [.int (nI 1)]) (σ1 := σ) rfl ?_
        refine tw_ri rfl (rfl) ?_
        exact ⟨by unfold tw_lvm; rw [tw_lv]; simp [eK]; try rfl, rfl⟩
      · skip
        show tw_P L xs _ 56 0 [.ref 13, .int (nI nd), .int (nI c), .int (nI p), .int (nI n), .int (nI e), tw_U, tw_U, tw_U, tw_U, tw_U] [] σ _
        refine tw_sg 1 (i1 := 1) (ls1 := [.ref 13, .int (nI nd), .int (nI c), .int (nI p), .int (nI n), .int (nI e), tw_U, tw_U, tw_U, tw_U, tw_U]) (st1 := [.int (nI nd)]) (σ1 := σ) rfl ?_
        refine tw_bzF (c := .lt) rfl (by rw [tw_clt', tw_nlt (by omega) (by omega)] <;> omega) ?_
        show tw_P L xs _ 56 2 [.ref 13, .int (nI nd), .int (nI c), .int (nI p), .int (nI n), .int (nI e), tw_U, tw_U, tw_U, tw_U, tw_U] [] σ _
        refine tw_sgn 3 (i1 := 5) (ls0 := [.ref 13, .int (nI nd), .int (nI c), .int (nI p), .int (nI n), .int (nI e), tw_U, tw_U, tw_U, tw_U, tw_U]) (st0 := [.int (σ 13 4), .int (nI nd)]) (σ0 := σ) (ls1 := [.ref 13, .int (nI nd), .int (nI c), .int (nI p), .int (nI n), .int (nI e), tw_U, tw_U, tw_U, tw_U, tw_U]) (st1 := [.int (nI k), .int (nI nd)]) (σ1 := σ) rfl (rfl) (by simp only [h13, tw_nadd, tw_nmul]) (rfl) ?_
        refine tw_biF (c := .ge) rfl (by rw [tw_cge', tw_nle (by omega) (by omega)] <;> omega) ?_
        show tw_P L xs _ 56 6 [.ref 13, .int (nI nd), .int (nI c), .int (nI p), .int (nI n), .int (nI e), tw_U, tw_U, tw_U, tw_U, tw_U] [] σ _
        refine tw_sg 2 (i1 := 8) (ls1 := [.ref 13, .int (nI nd), .int (nI c), .int (nI p), .int (nI n), .int (nI e), tw_U, tw_U, tw_U, tw_U, tw_U]) (st1 := [.int (nI 80), .int (nI nd)]) (σ1 := σ) rfl ?_
        refine tw_biF (c := .ge) rfl (by rw [tw_cge', tw_nle (by omega) (by omega)] <;> omega) ?_
        show tw_P L xs _ 56 9 [.ref 13, .int (nI nd), .int (nI c), .int (nI p), .int (nI n), .int (nI e), tw_U, tw_U, tw_U, tw_U, tw_U] [] σ _
        refine tw_sg 2 (i1 := 11) (ls1 := [.ref 13, .int (nI nd), .int (nI c), .int (nI p), .int (nI n), .int (nI e), tw_U, tw_U, tw_U, tw_U, tw_U]) (st1 := [.int (nI 6), .int (nI e)]) (σ1 := σ) rfl ?_
        refine tw_biT (c := .le) rfl (by rw [tw_cle, tw_nle (by omega) (by omega)] <;> omega) ?_
        show tw_P L xs _ 56 14 [.ref 13, .int (nI nd), .int (nI c), .int (nI p), .int (nI n), .int (nI e), tw_U, tw_U, tw_U, tw_U, tw_U] [] σ _
        refine tw_sg 3 (i1 := 17) (ls1 := [.ref 13, .int (nI nd), .int (nI c), .int (nI p), .int (nI n), .int (nI e), tw_U, tw_U, tw_U, tw_U, tw_U]) (st1 := [.int (nI nd), .ref 16]) (σ1 := σ) rfl ?_
        refine tw_al (k := 16) (j := nd) (len := 80) rfl rfl rfl rfl (rfl) (by omega) (by decide) ?_
        refine tw_sg 4 (i1 := 22) (ls1 := [.ref 13, .int (nI nd), .int (nI c), .int (nI p), .int (nI n), .int (nI e), .int (σ 16 nd), tw_U, tw_U, tw_U, tw_U]) (st1 := [.int (nI nd), .ref 17]) (σ1 := σ) rfl ?_
        refine tw_al (k := 17) (j := nd) (len := 80) rfl rfl rfl rfl (rfl) (by omega) (by decide) ?_
        refine tw_sg 4 (i1 := 27) (ls1 := [.ref 13, .int (nI nd), .int (nI c), .int (nI p), .int (nI n), .int (nI e), .int (σ 16 nd), .int (σ 17 nd), tw_U, tw_U, tw_U]) (st1 := [.int (nI nd), .ref 15]) (σ1 := σ) rfl ?_
        refine tw_al (k := 15) (j := nd) (len := 80) rfl rfl rfl rfl (rfl) (by omega) (by decide) ?_
        refine tw_sgn 8 (i1 := 36) (ls0 := [.ref 13, .int (nI nd), .int (nI c), .int (nI p), .int (nI n), .int (nI e), .int (σ 16 nd), .int (σ 17 nd), .int (σ 15 nd), .int (nI e + nI 1), tw_U]) (st0 := [.int (nI nd), .ref 14]) (σ0 := σ) (ls1 := [.ref 13, .int (nI nd), .int (nI c), .int (nI p), .int (nI n), .int (nI e), .int (σ 16 nd), .int (σ 17 nd), .int (σ 15 nd), .int (nI (e + 1)), tw_U]) (st1 := [.int (nI nd), .ref 14]) (σ1 := σ) rfl (by simp only [tw_nadd, tw_nmul]) (rfl) (rfl) ?_
        refine tw_alc (k := 14) (j := nd) (len := 80) rfl rfl rfl (rfl) (by omega) (by decide) ?_
        rw [e14]
        refine tw_swz (lo := 98) (j := 98) rfl (rfl) (by decide) (by decide) (by decide) rfl ?_
        show tw_P L xs _ 56 40 [.ref 13, .int (nI nd), .int (nI c), .int (nI p), .int (nI n), .int (nI e), .int (σ 16 nd), .int (σ 17 nd), .int (σ 15 nd), .int (nI (e + 1)), tw_U] [] σ _
        refine tw_sg 1 (i1 := 41) (ls1 := [.ref 13, .int (nI nd), .int (nI c), .int (nI p), .int (nI n), .int (nI e), .int (σ 16 nd), .int (σ 17 nd), .int (σ 15 nd), .int (nI (e + 1)), tw_U]) (st1 := [.int (nI 2)]) (σ1 := σ) rfl ?_
        refine tw_ri rfl (rfl) ?_
        exact ⟨by unfold tw_lvm; rw [tw_lv]; simp [eK]; try rfl, rfl⟩
      · skip
        show tw_P L xs _ 56 0 [.ref 13, .int (nI nd), .int (nI c), .int (nI p), .int (nI n), .int (nI e), tw_U, tw_U, tw_U, tw_U, tw_U] [] σ _
        refine tw_sg 1 (i1 := 1) (ls1 := [.ref 13, .int (nI nd), .int (nI c), .int (nI p), .int (nI n), .int (nI e), tw_U, tw_U, tw_U, tw_U, tw_U]) (st1 := [.int (nI nd)]) (σ1 := σ) rfl ?_
        refine tw_bzF (c := .lt) rfl (by rw [tw_clt', tw_nlt (by omega) (by omega)] <;> omega) ?_
        show tw_P L xs _ 56 2 [.ref 13, .int (nI nd), .int (nI c), .int (nI p), .int (nI n), .int (nI e), tw_U, tw_U, tw_U, tw_U, tw_U] [] σ _
        refine tw_sgn 3 (i1 := 5) (ls0 := [.ref 13, .int (nI nd), .int (nI c), .int (nI p), .int (nI n), .int (nI e), tw_U, tw_U, tw_U, tw_U, tw_U]) (st0 := [.int (σ 13 4), .int (nI nd)]) (σ0 := σ) (ls1 := [.ref 13, .int (nI nd), .int (nI c), .int (nI p), .int (nI n), .int (nI e), tw_U, tw_U, tw_U, tw_U, tw_U]) (st1 := [.int (nI k), .int (nI nd)]) (σ1 := σ) rfl (rfl) (by simp only [h13, tw_nadd, tw_nmul]) (rfl) ?_
        refine tw_biF (c := .ge) rfl (by rw [tw_cge', tw_nle (by omega) (by omega)] <;> omega) ?_
        show tw_P L xs _ 56 6 [.ref 13, .int (nI nd), .int (nI c), .int (nI p), .int (nI n), .int (nI e), tw_U, tw_U, tw_U, tw_U, tw_U] [] σ _
        refine tw_sg 2 (i1 := 8) (ls1 := [.ref 13, .int (nI nd), .int (nI c), .int (nI p), .int (nI n), .int (nI e), tw_U, tw_U, tw_U, tw_U, tw_U]) (st1 := [.int (nI 80), .int (nI nd)]) (σ1 := σ) rfl ?_
        refine tw_biF (c := .ge) rfl (by rw [tw_cge', tw_nle (by omega) (by omega)] <;> omega) ?_
        show tw_P L xs _ 56 9 [.ref 13, .int (nI nd), .int (nI c), .int (nI p), .int (nI n), .int (nI e), tw_U, tw_U, tw_U, tw_U, tw_U] [] σ _
        refine tw_sg 2 (i1 := 11) (ls1 := [.ref 13, .int (nI nd), .int (nI c), .int (nI p), .int (nI n), .int (nI e), tw_U, tw_U, tw_U, tw_U, tw_U]) (st1 := [.int (nI 6), .int (nI e)]) (σ1 := σ) rfl ?_
        refine tw_biT (c := .le) rfl (by rw [tw_cle, tw_nle (by omega) (by omega)] <;> omega) ?_
        show tw_P L xs _ 56 14 [.ref 13, .int (nI nd), .int (nI c), .int (nI p), .int (nI n), .int (nI e), tw_U, tw_U, tw_U, tw_U, tw_U] [] σ _
        refine tw_sg 3 (i1 := 17) (ls1 := [.ref 13, .int (nI nd), .int (nI c), .int (nI p), .int (nI n), .int (nI e), tw_U, tw_U, tw_U, tw_U, tw_U]) (st1 := [.int (nI nd), .ref 16]) (σ1 := σ) rfl ?_
        refine tw_al (k := 16) (j := nd) (len := 80) rfl rfl rfl rfl (rfl) (by omega) (by decide) ?_
        refine tw_sg 4 (i1 := 22) (ls1 := [.ref 13, .int (nI nd), .int (nI c), .int (nI p), .int (nI n), .int (nI e), .int (σ 16 nd), tw_U, tw_U, tw_U, tw_U]) (st1 := [.int (nI nd), .ref 17]) (σ1 := σ) rfl ?_
        refine tw_al (k := 17) (j := nd) (len := 80) rfl rfl rfl rfl (rfl) (by omega) (by decide) ?_
        refine tw_sg 4 (i1 := 27) (ls1 := [.ref 13, .int (nI nd), .int (nI c), .int (nI p), .int (nI n), .int (nI e), .int (σ 16 nd), .int (σ 17 nd), tw_U, tw_U, tw_U]) (st1 := [.int (nI nd), .ref 15]) (σ1 := σ) rfl ?_
        refine tw_al (k := 15) (j := nd) (len := 80) rfl rfl rfl rfl (rfl) (by omega) (by decide) ?_
        refine tw_sgn 8 (i1 := 36) (ls0 := [.ref 13, .int (nI nd), .int (nI c), .int (nI p), .int (nI n), .int (nI e), .int (σ 16 nd), .int (σ 17 nd), .int (σ 15 nd), .int (nI e + nI 1), tw_U]) (st0 := [.int (nI nd), .ref 14]) (σ0 := σ) (ls1 := [.ref 13, .int (nI nd), .int (nI c), .int (nI p), .int (nI n), .int (nI e), .int (σ 16 nd), .int (σ 17 nd), .int (σ 15 nd), .int (nI (e + 1)), tw_U]) (st1 := [.int (nI nd), .ref 14]) (σ1 := σ) rfl (by simp only [tw_nadd, tw_nmul]) (rfl) (rfl) ?_
        refine tw_alc (k := 14) (j := nd) (len := 80) rfl rfl rfl (rfl) (by omega) (by decide) ?_
        rw [e14]
        refine tw_swz (lo := 98) (j := 104) rfl (rfl) (by decide) (by decide) (by decide) rfl ?_
        show tw_P L xs _ 56 42 [.ref 13, .int (nI nd), .int (nI c), .int (nI p), .int (nI n), .int (nI e), .int (σ 16 nd), .int (σ 17 nd), .int (σ 15 nd), .int (nI (e + 1)), tw_U] [] σ _
        refine tw_sg 1 (i1 := 43) (ls1 := [.ref 13, .int (nI nd), .int (nI c), .int (nI p), .int (nI n), .int (nI e), .int (σ 16 nd), .int (σ 17 nd), .int (σ 15 nd), .int (nI (e + 1)), tw_U]) (st1 := [.int (nI 3)]) (σ1 := σ) rfl ?_
        refine tw_ri rfl (rfl) ?_
        exact ⟨by unfold tw_lvm; rw [tw_lv]; simp [eK]; try rfl, rfl⟩
    · have eN : (μ 100 nd).toNatClampNeg = q := by rw [show μ 100 nd = nI q from e100]; exact tw_nclamp (by omega)
      have m101 : μ 101 nd = nI a := e101
      have e15 : σ 15 nd = _ := (hμ 15 nd (by omega) (by omega)).trans e15
      have e16 : σ 16 nd = _ := (hμ 16 nd (by omega) (by omega)).trans e16
      have ha80 : a < 80 := by
        cases f with
        | zero => exact absurd hta (fun h => h)
        | succ f => exact Nat.lt_of_lt_of_le hta.1 hk
      have eA : (μ 101 nd).toNatClampNeg = a := by rw [m101]; exact tw_nclamp (by omega)
      unfold tw_oper tw_numd at ho
      rcases (show ch = 107 ∨ ch = 99 ∨ ch = 120 ∨ ch = 115 ∨ ch = 100 ∨ ch = 114 ∨ ch = 109 ∨ ch = 116 by omega) with rfl | rfl | rfl | rfl | rfl | rfl | rfl | rfl
      · skip
        obtain ⟨s, e17, e102, hts⟩ := hs (by unfold tw_pair; omega)
        have m102 : μ 102 nd = nI s := e102
        have e17 : σ 17 nd = nI s := (hμ 17 nd (by omega) (by omega)).trans e17
        have hs80 : s < 80 := by
          cases f with
          | zero => exact absurd hts (fun h => h)
          | succ f => exact Nat.lt_of_lt_of_le hts.1 hk
        have eS : (μ 102 nd).toNatClampNeg = s := by rw [m102]; exact tw_nclamp (by omega)
        have hq1 := hq1 (by omega)
        have hpq : p / q ≤ p := Nat.div_le_self p q
        by_cases hx : p / q % 2 = 0
        · skip
          show tw_P L xs _ 56 0 [.ref 13, .int (nI nd), .int (nI c), .int (nI p), .int (nI n), .int (nI e), tw_U, tw_U, tw_U, tw_U, tw_U] [] σ _
          refine tw_sg 1 (i1 := 1) (ls1 := [.ref 13, .int (nI nd), .int (nI c), .int (nI p), .int (nI n), .int (nI e), tw_U, tw_U, tw_U, tw_U, tw_U]) (st1 := [.int (nI nd)]) (σ1 := σ) rfl ?_
          refine tw_bzF (c := .lt) rfl (by rw [tw_clt', tw_nlt (by omega) (by omega)] <;> omega) ?_
          show tw_P L xs _ 56 2 [.ref 13, .int (nI nd), .int (nI c), .int (nI p), .int (nI n), .int (nI e), tw_U, tw_U, tw_U, tw_U, tw_U] [] σ _
          refine tw_sgn 3 (i1 := 5) (ls0 := [.ref 13, .int (nI nd), .int (nI c), .int (nI p), .int (nI n), .int (nI e), tw_U, tw_U, tw_U, tw_U, tw_U]) (st0 := [.int (σ 13 4), .int (nI nd)]) (σ0 := σ) (ls1 := [.ref 13, .int (nI nd), .int (nI c), .int (nI p), .int (nI n), .int (nI e), tw_U, tw_U, tw_U, tw_U, tw_U]) (st1 := [.int (nI k), .int (nI nd)]) (σ1 := σ) rfl (rfl) (by simp only [h13, tw_nadd, tw_nmul]) (rfl) ?_
          refine tw_biF (c := .ge) rfl (by rw [tw_cge', tw_nle (by omega) (by omega)] <;> omega) ?_
          show tw_P L xs _ 56 6 [.ref 13, .int (nI nd), .int (nI c), .int (nI p), .int (nI n), .int (nI e), tw_U, tw_U, tw_U, tw_U, tw_U] [] σ _
          refine tw_sg 2 (i1 := 8) (ls1 := [.ref 13, .int (nI nd), .int (nI c), .int (nI p), .int (nI n), .int (nI e), tw_U, tw_U, tw_U, tw_U, tw_U]) (st1 := [.int (nI 80), .int (nI nd)]) (σ1 := σ) rfl ?_
          refine tw_biF (c := .ge) rfl (by rw [tw_cge', tw_nle (by omega) (by omega)] <;> omega) ?_
          show tw_P L xs _ 56 9 [.ref 13, .int (nI nd), .int (nI c), .int (nI p), .int (nI n), .int (nI e), tw_U, tw_U, tw_U, tw_U, tw_U] [] σ _
          refine tw_sg 2 (i1 := 11) (ls1 := [.ref 13, .int (nI nd), .int (nI c), .int (nI p), .int (nI n), .int (nI e), tw_U, tw_U, tw_U, tw_U, tw_U]) (st1 := [.int (nI 6), .int (nI e)]) (σ1 := σ) rfl ?_
          refine tw_biT (c := .le) rfl (by rw [tw_cle, tw_nle (by omega) (by omega)] <;> omega) ?_
          show tw_P L xs _ 56 14 [.ref 13, .int (nI nd), .int (nI c), .int (nI p), .int (nI n), .int (nI e), tw_U, tw_U, tw_U, tw_U, tw_U] [] σ _
          refine tw_sg 3 (i1 := 17) (ls1 := [.ref 13, .int (nI nd), .int (nI c), .int (nI p), .int (nI n), .int (nI e), tw_U, tw_U, tw_U, tw_U, tw_U]) (st1 := [.int (nI nd), .ref 16]) (σ1 := σ) rfl ?_
          refine tw_al (k := 16) (j := nd) (len := 80) rfl rfl rfl rfl (rfl) (by omega) (by decide) ?_
          rw [e16]
          refine tw_sg 4 (i1 := 22) (ls1 := [.ref 13, .int (nI nd), .int (nI c), .int (nI p), .int (nI n), .int (nI e), .int (nI a), tw_U, tw_U, tw_U, tw_U]) (st1 := [.int (nI nd), .ref 17]) (σ1 := σ) rfl ?_
          refine tw_al (k := 17) (j := nd) (len := 80) rfl rfl rfl rfl (rfl) (by omega) (by decide) ?_
          rw [e17]
          refine tw_sg 4 (i1 := 27) (ls1 := [.ref 13, .int (nI nd), .int (nI c), .int (nI p), .int (nI n), .int (nI e), .int (nI a), .int (nI s), tw_U, tw_U, tw_U]) (st1 := [.int (nI nd), .ref 15]) (σ1 := σ) rfl ?_
          refine tw_al (k := 15) (j := nd) (len := 80) rfl rfl rfl rfl (rfl) (by omega) (by decide) ?_
          rw [e15]
          refine tw_sgn 8 (i1 := 36) (ls0 := [.ref 13, .int (nI nd), .int (nI c), .int (nI p), .int (nI n), .int (nI e), .int (nI a), .int (nI s), .int (nI q), .int (nI e + nI 1), tw_U]) (st0 := [.int (nI nd), .ref 14]) (σ0 := σ) (ls1 := [.ref 13, .int (nI nd), .int (nI c), .int (nI p), .int (nI n), .int (nI e), .int (nI a), .int (nI s), .int (nI q), .int (nI (e + 1)), tw_U]) (st1 := [.int (nI nd), .ref 14]) (σ1 := σ) rfl (by simp only [tw_nadd, tw_nmul]) (rfl) (rfl) ?_
          refine tw_alc (k := 14) (j := nd) (len := 80) rfl rfl rfl (rfl) (by omega) (by decide) ?_
          rw [e14]
          refine tw_swz (lo := 98) (j := 107) rfl (rfl) (by decide) (by decide) (by decide) rfl ?_
          show tw_P L xs _ 56 44 [.ref 13, .int (nI nd), .int (nI c), .int (nI p), .int (nI n), .int (nI e), .int (nI a), .int (nI s), .int (nI q), .int (nI (e + 1)), tw_U] [] σ _
          refine tw_sg 3 (i1 := 47) (ls1 := [.ref 13, .int (nI nd), .int (nI c), .int (nI p), .int (nI n), .int (nI e), .int (nI a), .int (nI s), .int (nI q), .int (nI (e + 1)), tw_U]) (st1 := [.int (nI q), .int (nI p), .ref 13]) (σ1 := σ) rfl ?_
          refine tw_cl0 0 rfl (rfl) (by omega) ?_
          show tw_P L xs _ 57 0 [.int (nI p), .int (nI q)] [] σ _
          refine tw_sg 1 (i1 := 1) (ls1 := [.int (nI p), .int (nI q)]) (st1 := [.int (nI q)]) (σ1 := σ) rfl ?_
          refine tw_bzF (c := .le) rfl (by rw [tw_cle', tw_nle (by omega) (by omega)] <;> omega) ?_
          show tw_P L xs _ 57 2 [.int (nI p), .int (nI q)] [] σ _
          refine tw_sg 2 (i1 := 4) (ls1 := [.int (nI p), .int (nI q)]) (st1 := [.int (nI q), .int (nI p)]) (σ1 := σ) rfl ?_
          refine tw_dv rfl (by rw [show (0 : Int32) = nI 0 from rfl, tw_neq (by omega) (by omega)]; omega) ?_
          rw [tw_ndiv (a := p) (b := q) (by omega) (by omega)]
          refine tw_sg 1 (i1 := 6) (ls1 := [.int (nI p), .int (nI q)]) (st1 := [.int (nI 2), .int (nI (p / q))]) (σ1 := σ) rfl ?_
          refine tw_rm rfl (by decide) ?_
          rw [tw_nrem (a := p / q) (b := 2) (by omega) (by omega)]
          refine tw_sg 1 (i1 := 8) (ls1 := [.int (nI p), .int (nI q)]) (st1 := [.int (nI 1), .int (nI (p / q % 2))]) (σ1 := σ) rfl ?_
          refine tw_biT (c := .ne) rfl (by rw [tw_cne, tw_neq (by omega) (by omega)] <;> omega) ?_
          show tw_P L xs _ 57 11 [.int (nI p), .int (nI q)] [] σ _
          refine tw_sg 1 (i1 := 12) (ls1 := [.int (nI p), .int (nI q)]) (st1 := [.int (nI 0)]) (σ1 := σ) rfl ?_
          refine tw_ri rfl (rfl) ?_
          show tw_P L xs _ 56 48 [.ref 13, .int (nI nd), .int (nI c), .int (nI p), .int (nI n), .int (nI e), .int (nI a), .int (nI s), .int (nI q), .int (nI (e + 1)), tw_U] [.int (nI 0), .ref 13] σ _
          refine tw_bzT (c := .eq) rfl (by rw [tw_ceq, tw_neq (by omega) (by omega)] <;> omega) ?_
          show tw_P L xs _ 56 51 [.ref 13, .int (nI nd), .int (nI c), .int (nI p), .int (nI n), .int (nI e), .int (nI a), .int (nI s), .int (nI q), .int (nI (e + 1)), tw_U] [.ref 13] σ _
          refine tw_sg 5 (i1 := 56) (ls1 := [.ref 13, .int (nI nd), .int (nI c), .int (nI p), .int (nI n), .int (nI e), .int (nI a), .int (nI s), .int (nI q), .int (nI (e + 1)), tw_U]) (st1 := [.int (nI (e + 1)), .int (nI n), .int (nI p), .int (nI c), .int (nI a), .ref 13]) (σ1 := σ) rfl ?_
          refine tw_cl1 rfl (rfl) (by omega) (ih (e + 1) a c p (by omega) hta (by omega) (by omega)) ?_
          rintro _ _ ⟨rfl, rfl⟩
          show tw_P L xs _ 56 57 [.ref 13, .int (nI nd), .int (nI c), .int (nI p), .int (nI n), .int (nI e), .int (nI a), .int (nI s), .int (nI q), .int (nI (e + 1)), tw_U] [.int (nI (tw_lvm μ n f a c p))] σ _
          refine tw_ri rfl (rfl) ?_
          exact ⟨by unfold tw_lvm; rw [tw_lv]; simp [eK, eN, eA, eS, hx]; try rfl, rfl⟩
        · skip
          show tw_P L xs _ 56 0 [.ref 13, .int (nI nd), .int (nI c), .int (nI p), .int (nI n), .int (nI e), tw_U, tw_U, tw_U, tw_U, tw_U] [] σ _
          refine tw_sg 1 (i1 := 1) (ls1 := [.ref 13, .int (nI nd), .int (nI c), .int (nI p), .int (nI n), .int (nI e), tw_U, tw_U, tw_U, tw_U, tw_U]) (st1 := [.int (nI nd)]) (σ1 := σ) rfl ?_
          refine tw_bzF (c := .lt) rfl (by rw [tw_clt', tw_nlt (by omega) (by omega)] <;> omega) ?_
          show tw_P L xs _ 56 2 [.ref 13, .int (nI nd), .int (nI c), .int (nI p), .int (nI n), .int (nI e), tw_U, tw_U, tw_U, tw_U, tw_U] [] σ _
          refine tw_sgn 3 (i1 := 5) (ls0 := [.ref 13, .int (nI nd), .int (nI c), .int (nI p), .int (nI n), .int (nI e), tw_U, tw_U, tw_U, tw_U, tw_U]) (st0 := [.int (σ 13 4), .int (nI nd)]) (σ0 := σ) (ls1 := [.ref 13, .int (nI nd), .int (nI c), .int (nI p), .int (nI n), .int (nI e), tw_U, tw_U, tw_U, tw_U, tw_U]) (st1 := [.int (nI k), .int (nI nd)]) (σ1 := σ) rfl (rfl) (by simp only [h13, tw_nadd, tw_nmul]) (rfl) ?_
          refine tw_biF (c := .ge) rfl (by rw [tw_cge', tw_nle (by omega) (by omega)] <;> omega) ?_
          show tw_P L xs _ 56 6 [.ref 13, .int (nI nd), .int (nI c), .int (nI p), .int (nI n), .int (nI e), tw_U, tw_U, tw_U, tw_U, tw_U] [] σ _
          refine tw_sg 2 (i1 := 8) (ls1 := [.ref 13, .int (nI nd), .int (nI c), .int (nI p), .int (nI n), .int (nI e), tw_U, tw_U, tw_U, tw_U, tw_U]) (st1 := [.int (nI 80), .int (nI nd)]) (σ1 := σ) rfl ?_
          refine tw_biF (c := .ge) rfl (by rw [tw_cge', tw_nle (by omega) (by omega)] <;> omega) ?_
          show tw_P L xs _ 56 9 [.ref 13, .int (nI nd), .int (nI c), .int (nI p), .int (nI n), .int (nI e), tw_U, tw_U, tw_U, tw_U, tw_U] [] σ _
          refine tw_sg 2 (i1 := 11) (ls1 := [.ref 13, .int (nI nd), .int (nI c), .int (nI p), .int (nI n), .int (nI e), tw_U, tw_U, tw_U, tw_U, tw_U]) (st1 := [.int (nI 6), .int (nI e)]) (σ1 := σ) rfl ?_
          refine tw_biT (c := .le) rfl (by rw [tw_cle, tw_nle (by omega) (by omega)] <;> omega) ?_
          show tw_P L xs _ 56 14 [.ref 13, .int (nI nd), .int (nI c), .int (nI p), .int (nI n), .int (nI e), tw_U, tw_U, tw_U, tw_U, tw_U] [] σ _
          refine tw_sg 3 (i1 := 17) (ls1 := [.ref 13, .int (nI nd), .int (nI c), .int (nI p), .int (nI n), .int (nI e), tw_U, tw_U, tw_U, tw_U, tw_U]) (st1 := [.int (nI nd), .ref 16]) (σ1 := σ) rfl ?_
          refine tw_al (k := 16) (j := nd) (len := 80) rfl rfl rfl rfl (rfl) (by omega) (by decide) ?_
          rw [e16]
          refine tw_sg 4 (i1 := 22) (ls1 := [.ref 13, .int (nI nd), .int (nI c), .int (nI p), .int (nI n), .int (nI e), .int (nI a), tw_U, tw_U, tw_U, tw_U]) (st1 := [.int (nI nd), .ref 17]) (σ1 := σ) rfl ?_
          refine tw_al (k := 17) (j := nd) (len := 80) rfl rfl rfl rfl (rfl) (by omega) (by decide) ?_
          rw [e17]
          refine tw_sg 4 (i1 := 27) (ls1 := [.ref 13, .int (nI nd), .int (nI c), .int (nI p), .int (nI n), .int (nI e), .int (nI a), .int (nI s), tw_U, tw_U, tw_U]) (st1 := [.int (nI nd), .ref 15]) (σ1 := σ) rfl ?_
          refine tw_al (k := 15) (j := nd) (len := 80) rfl rfl rfl rfl (rfl) (by omega) (by decide) ?_
          rw [e15]
          refine tw_sgn 8 (i1 := 36) (ls0 := [.ref 13, .int (nI nd), .int (nI c), .int (nI p), .int (nI n), .int (nI e), .int (nI a), .int (nI s), .int (nI q), .int (nI e + nI 1), tw_U]) (st0 := [.int (nI nd), .ref 14]) (σ0 := σ) (ls1 := [.ref 13, .int (nI nd), .int (nI c), .int (nI p), .int (nI n), .int (nI e), .int (nI a), .int (nI s), .int (nI q), .int (nI (e + 1)), tw_U]) (st1 := [.int (nI nd), .ref 14]) (σ1 := σ) rfl (by simp only [tw_nadd, tw_nmul]) (rfl) (rfl) ?_
          refine tw_alc (k := 14) (j := nd) (len := 80) rfl rfl rfl (rfl) (by omega) (by decide) ?_
          rw [e14]
          refine tw_swz (lo := 98) (j := 107) rfl (rfl) (by decide) (by decide) (by decide) rfl ?_
          show tw_P L xs _ 56 44 [.ref 13, .int (nI nd), .int (nI c), .int (nI p), .int (nI n), .int (nI e), .int (nI a), .int (nI s), .int (nI q), .int (nI (e + 1)), tw_U] [] σ _
          refine tw_sg 3 (i1 := 47) (ls1 := [.ref 13, .int (nI nd), .int (nI c), .int (nI p), .int (nI n), .int (nI e), .int (nI a), .int (nI s), .int (nI q), .int (nI (e + 1)), tw_U]) (st1 := [.int (nI q), .int (nI p), .ref 13]) (σ1 := σ) rfl ?_
          refine tw_cl0 0 rfl (rfl) (by omega) ?_
          show tw_P L xs _ 57 0 [.int (nI p), .int (nI q)] [] σ _
          refine tw_sg 1 (i1 := 1) (ls1 := [.int (nI p), .int (nI q)]) (st1 := [.int (nI q)]) (σ1 := σ) rfl ?_
          refine tw_bzF (c := .le) rfl (by rw [tw_cle', tw_nle (by omega) (by omega)] <;> omega) ?_
          show tw_P L xs _ 57 2 [.int (nI p), .int (nI q)] [] σ _
          refine tw_sg 2 (i1 := 4) (ls1 := [.int (nI p), .int (nI q)]) (st1 := [.int (nI q), .int (nI p)]) (σ1 := σ) rfl ?_
          refine tw_dv rfl (by rw [show (0 : Int32) = nI 0 from rfl, tw_neq (by omega) (by omega)]; omega) ?_
          rw [tw_ndiv (a := p) (b := q) (by omega) (by omega)]
          refine tw_sg 1 (i1 := 6) (ls1 := [.int (nI p), .int (nI q)]) (st1 := [.int (nI 2), .int (nI (p / q))]) (σ1 := σ) rfl ?_
          refine tw_rm rfl (by decide) ?_
          rw [tw_nrem (a := p / q) (b := 2) (by omega) (by omega)]
          refine tw_sg 1 (i1 := 8) (ls1 := [.int (nI p), .int (nI q)]) (st1 := [.int (nI 1), .int (nI (p / q % 2))]) (σ1 := σ) rfl ?_
          refine tw_biF (c := .ne) rfl (by rw [tw_cne', tw_neq (by omega) (by omega)] <;> omega) ?_
          show tw_P L xs _ 57 9 [.int (nI p), .int (nI q)] [] σ _
          refine tw_sg 2 (i1 := 12) (ls1 := [.int (nI p), .int (nI q)]) (st1 := [.int (nI 1)]) (σ1 := σ) rfl ?_
          refine tw_ri rfl (rfl) ?_
          show tw_P L xs _ 56 48 [.ref 13, .int (nI nd), .int (nI c), .int (nI p), .int (nI n), .int (nI e), .int (nI a), .int (nI s), .int (nI q), .int (nI (e + 1)), tw_U] [.int (nI 1), .ref 13] σ _
          refine tw_bzF (c := .eq) rfl (by rw [tw_ceq', tw_neq (by omega) (by omega)] <;> omega) ?_
          show tw_P L xs _ 56 49 [.ref 13, .int (nI nd), .int (nI c), .int (nI p), .int (nI n), .int (nI e), .int (nI a), .int (nI s), .int (nI q), .int (nI (e + 1)), tw_U] [.ref 13] σ _
          refine tw_sg 6 (i1 := 56) (ls1 := [.ref 13, .int (nI nd), .int (nI c), .int (nI p), .int (nI n), .int (nI e), .int (nI a), .int (nI s), .int (nI q), .int (nI (e + 1)), tw_U]) (st1 := [.int (nI (e + 1)), .int (nI n), .int (nI p), .int (nI c), .int (nI s), .ref 13]) (σ1 := σ) rfl ?_
          refine tw_cl1 rfl (rfl) (by omega) (ih (e + 1) s c p (by omega) hts (by omega) (by omega)) ?_
          rintro _ _ ⟨rfl, rfl⟩
          show tw_P L xs _ 56 57 [.ref 13, .int (nI nd), .int (nI c), .int (nI p), .int (nI n), .int (nI e), .int (nI a), .int (nI s), .int (nI q), .int (nI (e + 1)), tw_U] [.int (nI (tw_lvm μ n f s c p))] σ _
          refine tw_ri rfl (rfl) ?_
          exact ⟨by unfold tw_lvm; rw [tw_lv]; simp [eK, eN, eA, eS, hx]; try rfl, rfl⟩
      · skip
        obtain ⟨s, e17, e102, hts⟩ := hs (by unfold tw_pair; omega)
        have m102 : μ 102 nd = nI s := e102
        have e17 : σ 17 nd = nI s := (hμ 17 nd (by omega) (by omega)).trans e17
        have hs80 : s < 80 := by
          cases f with
          | zero => exact absurd hts (fun h => h)
          | succ f => exact Nat.lt_of_lt_of_le hts.1 hk
        have eS : (μ 102 nd).toNatClampNeg = s := by rw [m102]; exact tw_nclamp (by omega)
        by_cases hx : c < q
        · skip
          show tw_P L xs _ 56 0 [.ref 13, .int (nI nd), .int (nI c), .int (nI p), .int (nI n), .int (nI e), tw_U, tw_U, tw_U, tw_U, tw_U] [] σ _
          refine tw_sg 1 (i1 := 1) (ls1 := [.ref 13, .int (nI nd), .int (nI c), .int (nI p), .int (nI n), .int (nI e), tw_U, tw_U, tw_U, tw_U, tw_U]) (st1 := [.int (nI nd)]) (σ1 := σ) rfl ?_
          refine tw_bzF (c := .lt) rfl (by rw [tw_clt', tw_nlt (by omega) (by omega)] <;> omega) ?_
          show tw_P L xs _ 56 2 [.ref 13, .int (nI nd), .int (nI c), .int (nI p), .int (nI n), .int (nI e), tw_U, tw_U, tw_U, tw_U, tw_U] [] σ _
          refine tw_sgn 3 (i1 := 5) (ls0 := [.ref 13, .int (nI nd), .int (nI c), .int (nI p), .int (nI n), .int (nI e), tw_U, tw_U, tw_U, tw_U, tw_U]) (st0 := [.int (σ 13 4), .int (nI nd)]) (σ0 := σ) (ls1 := [.ref 13, .int (nI nd), .int (nI c), .int (nI p), .int (nI n), .int (nI e), tw_U, tw_U, tw_U, tw_U, tw_U]) (st1 := [.int (nI k), .int (nI nd)]) (σ1 := σ) rfl (rfl) (by simp only [h13, tw_nadd, tw_nmul]) (rfl) ?_
          refine tw_biF (c := .ge) rfl (by rw [tw_cge', tw_nle (by omega) (by omega)] <;> omega) ?_
          show tw_P L xs _ 56 6 [.ref 13, .int (nI nd), .int (nI c), .int (nI p), .int (nI n), .int (nI e), tw_U, tw_U, tw_U, tw_U, tw_U] [] σ _
          refine tw_sg 2 (i1 := 8) (ls1 := [.ref 13, .int (nI nd), .int (nI c), .int (nI p), .int (nI n), .int (nI e), tw_U, tw_U, tw_U, tw_U, tw_U]) (st1 := [.int (nI 80), .int (nI nd)]) (σ1 := σ) rfl ?_
          refine tw_biF (c := .ge) rfl (by rw [tw_cge', tw_nle (by omega) (by omega)] <;> omega) ?_
          show tw_P L xs _ 56 9 [.ref 13, .int (nI nd), .int (nI c), .int (nI p), .int (nI n), .int (nI e), tw_U, tw_U, tw_U, tw_U, tw_U] [] σ _
          refine tw_sg 2 (i1 := 11) (ls1 := [.ref 13, .int (nI nd), .int (nI c), .int (nI p), .int (nI n), .int (nI e), tw_U, tw_U, tw_U, tw_U, tw_U]) (st1 := [.int (nI 6), .int (nI e)]) (σ1 := σ) rfl ?_
          refine tw_biT (c := .le) rfl (by rw [tw_cle, tw_nle (by omega) (by omega)] <;> omega) ?_
          show tw_P L xs _ 56 14 [.ref 13, .int (nI nd), .int (nI c), .int (nI p), .int (nI n), .int (nI e), tw_U, tw_U, tw_U, tw_U, tw_U] [] σ _
          refine tw_sg 3 (i1 := 17) (ls1 := [.ref 13, .int (nI nd), .int (nI c), .int (nI p), .int (nI n), .int (nI e), tw_U, tw_U, tw_U, tw_U, tw_U]) (st1 := [.int (nI nd), .ref 16]) (σ1 := σ) rfl ?_
          refine tw_al (k := 16) (j := nd) (len := 80) rfl rfl rfl rfl (rfl) (by omega) (by decide) ?_
          rw [e16]
          refine tw_sg 4 (i1 := 22) (ls1 := [.ref 13, .int (nI nd), .int (nI c), .int (nI p), .int (nI n), .int (nI e), .int (nI a), tw_U, tw_U, tw_U, tw_U]) (st1 := [.int (nI nd), .ref 17]) (σ1 := σ) rfl ?_
          refine tw_al (k := 17) (j := nd) (len := 80) rfl rfl rfl rfl (rfl) (by omega) (by decide) ?_
          rw [e17]
          refine tw_sg 4 (i1 := 27) (ls1 := [.ref 13, .int (nI nd), .int (nI c), .int (nI p), .int (nI n), .int (nI e), .int (nI a), .int (nI s), tw_U, tw_U, tw_U]) (st1 := [.int (nI nd), .ref 15]) (σ1 := σ) rfl ?_
          refine tw_al (k := 15) (j := nd) (len := 80) rfl rfl rfl rfl (rfl) (by omega) (by decide) ?_
          rw [e15]
          refine tw_sgn 8 (i1 := 36) (ls0 := [.ref 13, .int (nI nd), .int (nI c), .int (nI p), .int (nI n), .int (nI e), .int (nI a), .int (nI s), .int (nI q), .int (nI e + nI 1), tw_U]) (st0 := [.int (nI nd), .ref 14]) (σ0 := σ) (ls1 := [.ref 13, .int (nI nd), .int (nI c), .int (nI p), .int (nI n), .int (nI e), .int (nI a), .int (nI s), .int (nI q), .int (nI (e + 1)), tw_U]) (st1 := [.int (nI nd), .ref 14]) (σ1 := σ) rfl (by simp only [tw_nadd, tw_nmul]) (rfl) (rfl) ?_
          refine tw_alc (k := 14) (j := nd) (len := 80) rfl rfl rfl (rfl) (by omega) (by decide) ?_
          rw [e14]
          refine tw_swz (lo := 98) (j := 99) rfl (rfl) (by decide) (by decide) (by decide) rfl ?_
          show tw_P L xs _ 56 58 [.ref 13, .int (nI nd), .int (nI c), .int (nI p), .int (nI n), .int (nI e), .int (nI a), .int (nI s), .int (nI q), .int (nI (e + 1)), tw_U] [] σ _
          refine tw_sg 3 (i1 := 61) (ls1 := [.ref 13, .int (nI nd), .int (nI c), .int (nI p), .int (nI n), .int (nI e), .int (nI a), .int (nI s), .int (nI q), .int (nI (e + 1)), tw_U]) (st1 := [.int (nI q), .int (nI c), .ref 13]) (σ1 := σ) rfl ?_
          refine tw_biF (c := .ge) rfl (by rw [tw_cge', tw_nle (by omega) (by omega)] <;> omega) ?_
          show tw_P L xs _ 56 62 [.ref 13, .int (nI nd), .int (nI c), .int (nI p), .int (nI n), .int (nI e), .int (nI a), .int (nI s), .int (nI q), .int (nI (e + 1)), tw_U] [.ref 13] σ _
          refine tw_sg 6 (i1 := 69) (ls1 := [.ref 13, .int (nI nd), .int (nI c), .int (nI p), .int (nI n), .int (nI e), .int (nI a), .int (nI s), .int (nI q), .int (nI (e + 1)), tw_U]) (st1 := [.int (nI (e + 1)), .int (nI n), .int (nI p), .int (nI c), .int (nI a), .ref 13]) (σ1 := σ) rfl ?_
          refine tw_cl1 rfl (rfl) (by omega) (ih (e + 1) a c p (by omega) hta (by omega) (by omega)) ?_
          rintro _ _ ⟨rfl, rfl⟩
          show tw_P L xs _ 56 70 [.ref 13, .int (nI nd), .int (nI c), .int (nI p), .int (nI n), .int (nI e), .int (nI a), .int (nI s), .int (nI q), .int (nI (e + 1)), tw_U] [.int (nI (tw_lvm μ n f a c p))] σ _
          refine tw_ri rfl (rfl) ?_
          exact ⟨by unfold tw_lvm; rw [tw_lv]; simp [eK, eN, eA, eS, hx]; try rfl, rfl⟩
        · skip
          show tw_P L xs _ 56 0 [.ref 13, .int (nI nd), .int (nI c), .int (nI p), .int (nI n), .int (nI e), tw_U, tw_U, tw_U, tw_U, tw_U] [] σ _
          refine tw_sg 1 (i1 := 1) (ls1 := [.ref 13, .int (nI nd), .int (nI c), .int (nI p), .int (nI n), .int (nI e), tw_U, tw_U, tw_U, tw_U, tw_U]) (st1 := [.int (nI nd)]) (σ1 := σ) rfl ?_
          refine tw_bzF (c := .lt) rfl (by rw [tw_clt', tw_nlt (by omega) (by omega)] <;> omega) ?_
          show tw_P L xs _ 56 2 [.ref 13, .int (nI nd), .int (nI c), .int (nI p), .int (nI n), .int (nI e), tw_U, tw_U, tw_U, tw_U, tw_U] [] σ _
          refine tw_sgn 3 (i1 := 5) (ls0 := [.ref 13, .int (nI nd), .int (nI c), .int (nI p), .int (nI n), .int (nI e), tw_U, tw_U, tw_U, tw_U, tw_U]) (st0 := [.int (σ 13 4), .int (nI nd)]) (σ0 := σ) (ls1 := [.ref 13, .int (nI nd), .int (nI c), .int (nI p), .int (nI n), .int (nI e), tw_U, tw_U, tw_U, tw_U, tw_U]) (st1 := [.int (nI k), .int (nI nd)]) (σ1 := σ) rfl (rfl) (by simp only [h13, tw_nadd, tw_nmul]) (rfl) ?_
          refine tw_biF (c := .ge) rfl (by rw [tw_cge', tw_nle (by omega) (by omega)] <;> omega) ?_
          show tw_P L xs _ 56 6 [.ref 13, .int (nI nd), .int (nI c), .int (nI p), .int (nI n), .int (nI e), tw_U, tw_U, tw_U, tw_U, tw_U] [] σ _
          refine tw_sg 2 (i1 := 8) (ls1 := [.ref 13, .int (nI nd), .int (nI c), .int (nI p), .int (nI n), .int (nI e), tw_U, tw_U, tw_U, tw_U, tw_U]) (st1 := [.int (nI 80), .int (nI nd)]) (σ1 := σ) rfl ?_
          refine tw_biF (c := .ge) rfl (by rw [tw_cge', tw_nle (by omega) (by omega)] <;> omega) ?_
          show tw_P L xs _ 56 9 [.ref 13, .int (nI nd), .int (nI c), .int (nI p), .int (nI n), .int (nI e), tw_U, tw_U, tw_U, tw_U, tw_U] [] σ _
          refine tw_sg 2 (i1 := 11) (ls1 := [.ref 13, .int (nI nd), .int (nI c), .int (nI p), .int (nI n), .int (nI e), tw_U, tw_U, tw_U, tw_U, tw_U]) (st1 := [.int (nI 6), .int (nI e)]) (σ1 := σ) rfl ?_
          refine tw_biT (c := .le) rfl (by rw [tw_cle, tw_nle (by omega) (by omega)] <;> omega) ?_
          show tw_P L xs _ 56 14 [.ref 13, .int (nI nd), .int (nI c), .int (nI p), .int (nI n), .int (nI e), tw_U, tw_U, tw_U, tw_U, tw_U] [] σ _
          refine tw_sg 3 (i1 := 17) (ls1 := [.ref 13, .int (nI nd), .int (nI c), .int (nI p), .int (nI n), .int (nI e), tw_U, tw_U, tw_U, tw_U, tw_U]) (st1 := [.int (nI nd), .ref 16]) (σ1 := σ) rfl ?_
          refine tw_al (k := 16) (j := nd) (len := 80) rfl rfl rfl rfl (rfl) (by omega) (by decide) ?_
          rw [e16]
          refine tw_sg 4 (i1 := 22) (ls1 := [.ref 13, .int (nI nd), .int (nI c), .int (nI p), .int (nI n), .int (nI e), .int (nI a), tw_U, tw_U, tw_U, tw_U]) (st1 := [.int (nI nd), .ref 17]) (σ1 := σ) rfl ?_
          refine tw_al (k := 17) (j := nd) (len := 80) rfl rfl rfl rfl (rfl) (by omega) (by decide) ?_
          rw [e17]
          refine tw_sg 4 (i1 := 27) (ls1 := [.ref 13, .int (nI nd), .int (nI c), .int (nI p), .int (nI n), .int (nI e), .int (nI a), .int (nI s), tw_U, tw_U, tw_U]) (st1 := [.int (nI nd), .ref 15]) (σ1 := σ) rfl ?_
          refine tw_al (k := 15) (j := nd) (len := 80) rfl rfl rfl rfl (rfl) (by omega) (by decide) ?_
          rw [e15]
          refine tw_sgn 8 (i1 := 36) (ls0 := [.ref 13, .int (nI nd), .int (nI c), .int (nI p), .int (nI n), .int (nI e), .int (nI a), .int (nI s), .int (nI q), .int (nI e + nI 1), tw_U]) (st0 := [.int (nI nd), .ref 14]) (σ0 := σ) (ls1 := [.ref 13, .int (nI nd), .int (nI c), .int (nI p), .int (nI n), .int (nI e), .int (nI a), .int (nI s), .int (nI q), .int (nI (e + 1)), tw_U]) (st1 := [.int (nI nd), .ref 14]) (σ1 := σ) rfl (by simp only [tw_nadd, tw_nmul]) (rfl) (rfl) ?_
          refine tw_alc (k := 14) (j := nd) (len := 80) rfl rfl rfl (rfl) (by omega) (by decide) ?_
          rw [e14]
          refine tw_swz (lo := 98) (j := 99) rfl (rfl) (by decide) (by decide) (by decide) rfl ?_
          show tw_P L xs _ 56 58 [.ref 13, .int (nI nd), .int (nI c), .int (nI p), .int (nI n), .int (nI e), .int (nI a), .int (nI s), .int (nI q), .int (nI (e + 1)), tw_U] [] σ _
          refine tw_sg 3 (i1 := 61) (ls1 := [.ref 13, .int (nI nd), .int (nI c), .int (nI p), .int (nI n), .int (nI e), .int (nI a), .int (nI s), .int (nI q), .int (nI (e + 1)), tw_U]) (st1 := [.int (nI q), .int (nI c), .ref 13]) (σ1 := σ) rfl ?_
          refine tw_biT (c := .ge) rfl (by rw [tw_cge, tw_nle (by omega) (by omega)] <;> omega) ?_
          show tw_P L xs _ 56 64 [.ref 13, .int (nI nd), .int (nI c), .int (nI p), .int (nI n), .int (nI e), .int (nI a), .int (nI s), .int (nI q), .int (nI (e + 1)), tw_U] [.ref 13] σ _
          refine tw_sg 5 (i1 := 69) (ls1 := [.ref 13, .int (nI nd), .int (nI c), .int (nI p), .int (nI n), .int (nI e), .int (nI a), .int (nI s), .int (nI q), .int (nI (e + 1)), tw_U]) (st1 := [.int (nI (e + 1)), .int (nI n), .int (nI p), .int (nI c), .int (nI s), .ref 13]) (σ1 := σ) rfl ?_
          refine tw_cl1 rfl (rfl) (by omega) (ih (e + 1) s c p (by omega) hts (by omega) (by omega)) ?_
          rintro _ _ ⟨rfl, rfl⟩
          show tw_P L xs _ 56 70 [.ref 13, .int (nI nd), .int (nI c), .int (nI p), .int (nI n), .int (nI e), .int (nI a), .int (nI s), .int (nI q), .int (nI (e + 1)), tw_U] [.int (nI (tw_lvm μ n f s c p))] σ _
          refine tw_ri rfl (rfl) ?_
          exact ⟨by unfold tw_lvm; rw [tw_lv]; simp [eK, eN, eA, eS, hx]; try rfl, rfl⟩
      · skip
        obtain ⟨s, e17, e102, hts⟩ := hs (by unfold tw_pair; omega)
        have m102 : μ 102 nd = nI s := e102
        have e17 : σ 17 nd = nI s := (hμ 17 nd (by omega) (by omega)).trans e17
        have hs80 : s < 80 := by
          cases f with
          | zero => exact absurd hts (fun h => h)
          | succ f => exact Nat.lt_of_lt_of_le hts.1 hk
        have eS : (μ 102 nd).toNatClampNeg = s := by rw [m102]; exact tw_nclamp (by omega)
        have hq1 := hq1 (by omega)
        have hpq : p % q < q := Nat.mod_lt _ hq1
        by_cases hx : p % q = 0
        · skip
          show tw_P L xs _ 56 0 [.ref 13, .int (nI nd), .int (nI c), .int (nI p), .int (nI n), .int (nI e), tw_U, tw_U, tw_U, tw_U, tw_U] [] σ _
          refine tw_sg 1 (i1 := 1) (ls1 := [.ref 13, .int (nI nd), .int (nI c), .int (nI p), .int (nI n), .int (nI e), tw_U, tw_U, tw_U, tw_U, tw_U]) (st1 := [.int (nI nd)]) (σ1 := σ) rfl ?_
          refine tw_bzF (c := .lt) rfl (by rw [tw_clt', tw_nlt (by omega) (by omega)] <;> omega) ?_
          show tw_P L xs _ 56 2 [.ref 13, .int (nI nd), .int (nI c), .int (nI p), .int (nI n), .int (nI e), tw_U, tw_U, tw_U, tw_U, tw_U] [] σ _
          refine tw_sgn 3 (i1 := 5) (ls0 := [.ref 13, .int (nI nd), .int (nI c), .int (nI p), .int (nI n), .int (nI e), tw_U, tw_U, tw_U, tw_U, tw_U]) (st0 := [.int (σ 13 4), .int (nI nd)]) (σ0 := σ) (ls1 := [.ref 13, .int (nI nd), .int (nI c), .int (nI p), .int (nI n), .int (nI e), tw_U, tw_U, tw_U, tw_U, tw_U]) (st1 := [.int (nI k), .int (nI nd)]) (σ1 := σ) rfl (rfl) (by simp only [h13, tw_nadd, tw_nmul]) (rfl) ?_
          refine tw_biF (c := .ge) rfl (by rw [tw_cge', tw_nle (by omega) (by omega)] <;> omega) ?_
          show tw_P L xs _ 56 6 [.ref 13, .int (nI nd), .int (nI c), .int (nI p), .int (nI n), .int (nI e), tw_U, tw_U, tw_U, tw_U, tw_U] [] σ _
          refine tw_sg 2 (i1 := 8) (ls1 := [.ref 13, .int (nI nd), .int (nI c), .int (nI p), .int (nI n), .int (nI e), tw_U, tw_U, tw_U, tw_U, tw_U]) (st1 := [.int (nI 80), .int (nI nd)]) (σ1 := σ) rfl ?_
          refine tw_biF (c := .ge) rfl (by rw [tw_cge', tw_nle (by omega) (by omega)] <;> omega) ?_
          show tw_P L xs _ 56 9 [.ref 13, .int (nI nd), .int (nI c), .int (nI p), .int (nI n), .int (nI e), tw_U, tw_U, tw_U, tw_U, tw_U] [] σ _
          refine tw_sg 2 (i1 := 11) (ls1 := [.ref 13, .int (nI nd), .int (nI c), .int (nI p), .int (nI n), .int (nI e), tw_U, tw_U, tw_U, tw_U, tw_U]) (st1 := [.int (nI 6), .int (nI e)]) (σ1 := σ) rfl ?_
          refine tw_biT (c := .le) rfl (by rw [tw_cle, tw_nle (by omega) (by omega)] <;> omega) ?_
          show tw_P L xs _ 56 14 [.ref 13, .int (nI nd), .int (nI c), .int (nI p), .int (nI n), .int (nI e), tw_U, tw_U, tw_U, tw_U, tw_U] [] σ _
          refine tw_sg 3 (i1 := 17) (ls1 := [.ref 13, .int (nI nd), .int (nI c), .int (nI p), .int (nI n), .int (nI e), tw_U, tw_U, tw_U, tw_U, tw_U]) (st1 := [.int (nI nd), .ref 16]) (σ1 := σ) rfl ?_
          refine tw_al (k := 16) (j := nd) (len := 80) rfl rfl rfl rfl (rfl) (by omega) (by decide) ?_
          rw [e16]
          refine tw_sg 4 (i1 := 22) (ls1 := [.ref 13, .int (nI nd), .int (nI c), .int (nI p), .int (nI n), .int (nI e), .int (nI a), tw_U, tw_U, tw_U, tw_U]) (st1 := [.int (nI nd), .ref 17]) (σ1 := σ) rfl ?_
          refine tw_al (k := 17) (j := nd) (len := 80) rfl rfl rfl rfl (rfl) (by omega) (by decide) ?_
          rw [e17]
          refine tw_sg 4 (i1 := 27) (ls1 := [.ref 13, .int (nI nd), .int (nI c), .int (nI p), .int (nI n), .int (nI e), .int (nI a), .int (nI s), tw_U, tw_U, tw_U]) (st1 := [.int (nI nd), .ref 15]) (σ1 := σ) rfl ?_
          refine tw_al (k := 15) (j := nd) (len := 80) rfl rfl rfl rfl (rfl) (by omega) (by decide) ?_
          rw [e15]
          refine tw_sgn 8 (i1 := 36) (ls0 := [.ref 13, .int (nI nd), .int (nI c), .int (nI p), .int (nI n), .int (nI e), .int (nI a), .int (nI s), .int (nI q), .int (nI e + nI 1), tw_U]) (st0 := [.int (nI nd), .ref 14]) (σ0 := σ) (ls1 := [.ref 13, .int (nI nd), .int (nI c), .int (nI p), .int (nI n), .int (nI e), .int (nI a), .int (nI s), .int (nI q), .int (nI (e + 1)), tw_U]) (st1 := [.int (nI nd), .ref 14]) (σ1 := σ) rfl (by simp only [tw_nadd, tw_nmul]) (rfl) (rfl) ?_
          refine tw_alc (k := 14) (j := nd) (len := 80) rfl rfl rfl (rfl) (by omega) (by decide) ?_
          rw [e14]
          refine tw_swz (lo := 98) (j := 120) rfl (rfl) (by decide) (by decide) (by decide) rfl ?_
          show tw_P L xs _ 56 71 [.ref 13, .int (nI nd), .int (nI c), .int (nI p), .int (nI n), .int (nI e), .int (nI a), .int (nI s), .int (nI q), .int (nI (e + 1)), tw_U] [] σ _
          refine tw_sg 3 (i1 := 74) (ls1 := [.ref 13, .int (nI nd), .int (nI c), .int (nI p), .int (nI n), .int (nI e), .int (nI a), .int (nI s), .int (nI q), .int (nI (e + 1)), tw_U]) (st1 := [.int (nI q), .int (nI p), .ref 13]) (σ1 := σ) rfl ?_
          refine tw_cl0 0 rfl (rfl) (by omega) ?_
          show tw_P L xs _ 58 0 [.int (nI p), .int (nI q)] [] σ _
          refine tw_sg 1 (i1 := 1) (ls1 := [.int (nI p), .int (nI q)]) (st1 := [.int (nI q)]) (σ1 := σ) rfl ?_
          refine tw_bzF (c := .le) rfl (by rw [tw_cle', tw_nle (by omega) (by omega)] <;> omega) ?_
          show tw_P L xs _ 58 2 [.int (nI p), .int (nI q)] [] σ _
          refine tw_sg 2 (i1 := 4) (ls1 := [.int (nI p), .int (nI q)]) (st1 := [.int (nI q), .int (nI p)]) (σ1 := σ) rfl ?_
          refine tw_rm rfl (by rw [show (0 : Int32) = nI 0 from rfl, tw_neq (by omega) (by omega)]; omega) ?_
          rw [tw_nrem (a := p) (b := q) (by omega) (by omega)]
          refine tw_bzF (c := .ne) rfl (by rw [tw_cne', tw_neq (by omega) (by omega)] <;> omega) ?_
          show tw_P L xs _ 58 6 [.int (nI p), .int (nI q)] [] σ _
          refine tw_sg 2 (i1 := 9) (ls1 := [.int (nI p), .int (nI q)]) (st1 := [.int (nI 1)]) (σ1 := σ) rfl ?_
          refine tw_ri rfl (rfl) ?_
          show tw_P L xs _ 56 75 [.ref 13, .int (nI nd), .int (nI c), .int (nI p), .int (nI n), .int (nI e), .int (nI a), .int (nI s), .int (nI q), .int (nI (e + 1)), tw_U] [.int (nI 1), .ref 13] σ _
          refine tw_bzF (c := .eq) rfl (by rw [tw_ceq', tw_neq (by omega) (by omega)] <;> omega) ?_
          show tw_P L xs _ 56 76 [.ref 13, .int (nI nd), .int (nI c), .int (nI p), .int (nI n), .int (nI e), .int (nI a), .int (nI s), .int (nI q), .int (nI (e + 1)), tw_U] [.ref 13] σ _
          refine tw_sg 6 (i1 := 83) (ls1 := [.ref 13, .int (nI nd), .int (nI c), .int (nI p), .int (nI n), .int (nI e), .int (nI a), .int (nI s), .int (nI q), .int (nI (e + 1)), tw_U]) (st1 := [.int (nI (e + 1)), .int (nI n), .int (nI p), .int (nI c), .int (nI s), .ref 13]) (σ1 := σ) rfl ?_
          refine tw_cl1 rfl (rfl) (by omega) (ih (e + 1) s c p (by omega) hts (by omega) (by omega)) ?_
          rintro _ _ ⟨rfl, rfl⟩
          show tw_P L xs _ 56 84 [.ref 13, .int (nI nd), .int (nI c), .int (nI p), .int (nI n), .int (nI e), .int (nI a), .int (nI s), .int (nI q), .int (nI (e + 1)), tw_U] [.int (nI (tw_lvm μ n f s c p))] σ _
          refine tw_ri rfl (rfl) ?_
          exact ⟨by unfold tw_lvm; rw [tw_lv]; simp [eK, eN, eA, eS, hx]; try rfl, rfl⟩
        · skip
          show tw_P L xs _ 56 0 [.ref 13, .int (nI nd), .int (nI c), .int (nI p), .int (nI n), .int (nI e), tw_U, tw_U, tw_U, tw_U, tw_U] [] σ _
          refine tw_sg 1 (i1 := 1) (ls1 := [.ref 13, .int (nI nd), .int (nI c), .int (nI p), .int (nI n), .int (nI e), tw_U, tw_U, tw_U, tw_U, tw_U]) (st1 := [.int (nI nd)]) (σ1 := σ) rfl ?_
          refine tw_bzF (c := .lt) rfl (by rw [tw_clt', tw_nlt (by omega) (by omega)] <;> omega) ?_
          show tw_P L xs _ 56 2 [.ref 13, .int (nI nd), .int (nI c), .int (nI p), .int (nI n), .int (nI e), tw_U, tw_U, tw_U, tw_U, tw_U] [] σ _
          refine tw_sgn 3 (i1 := 5) (ls0 := [.ref 13, .int (nI nd), .int (nI c), .int (nI p), .int (nI n), .int (nI e), tw_U, tw_U, tw_U, tw_U, tw_U]) (st0 := [.int (σ 13 4), .int (nI nd)]) (σ0 := σ) (ls1 := [.ref 13, .int (nI nd), .int (nI c), .int (nI p), .int (nI n), .int (nI e), tw_U, tw_U, tw_U, tw_U, tw_U]) (st1 := [.int (nI k), .int (nI nd)]) (σ1 := σ) rfl (rfl) (by simp only [h13, tw_nadd, tw_nmul]) (rfl) ?_
          refine tw_biF (c := .ge) rfl (by rw [tw_cge', tw_nle (by omega) (by omega)] <;> omega) ?_
          show tw_P L xs _ 56 6 [.ref 13, .int (nI nd), .int (nI c), .int (nI p), .int (nI n), .int (nI e), tw_U, tw_U, tw_U, tw_U, tw_U] [] σ _
          refine tw_sg 2 (i1 := 8) (ls1 := [.ref 13, .int (nI nd), .int (nI c), .int (nI p), .int (nI n), .int (nI e), tw_U, tw_U, tw_U, tw_U, tw_U]) (st1 := [.int (nI 80), .int (nI nd)]) (σ1 := σ) rfl ?_
          refine tw_biF (c := .ge) rfl (by rw [tw_cge', tw_nle (by omega) (by omega)] <;> omega) ?_
          show tw_P L xs _ 56 9 [.ref 13, .int (nI nd), .int (nI c), .int (nI p), .int (nI n), .int (nI e), tw_U, tw_U, tw_U, tw_U, tw_U] [] σ _
          refine tw_sg 2 (i1 := 11) (ls1 := [.ref 13, .int (nI nd), .int (nI c), .int (nI p), .int (nI n), .int (nI e), tw_U, tw_U, tw_U, tw_U, tw_U]) (st1 := [.int (nI 6), .int (nI e)]) (σ1 := σ) rfl ?_
          refine tw_biT (c := .le) rfl (by rw [tw_cle, tw_nle (by omega) (by omega)] <;> omega) ?_
          show tw_P L xs _ 56 14 [.ref 13, .int (nI nd), .int (nI c), .int (nI p), .int (nI n), .int (nI e), tw_U, tw_U, tw_U, tw_U, tw_U] [] σ _
          refine tw_sg 3 (i1 := 17) (ls1 := [.ref 13, .int (nI nd), .int (nI c), .int (nI p), .int (nI n), .int (nI e), tw_U, tw_U, tw_U, tw_U, tw_U]) (st1 := [.int (nI nd), .ref 16]) (σ1 := σ) rfl ?_
          refine tw_al (k := 16) (j := nd) (len := 80) rfl rfl rfl rfl (rfl) (by omega) (by decide) ?_
          rw [e16]
          refine tw_sg 4 (i1 := 22) (ls1 := [.ref 13, .int (nI nd), .int (nI c), .int (nI p), .int (nI n), .int (nI e), .int (nI a), tw_U, tw_U, tw_U, tw_U]) (st1 := [.int (nI nd), .ref 17]) (σ1 := σ) rfl ?_
          refine tw_al (k := 17) (j := nd) (len := 80) rfl rfl rfl rfl (rfl) (by omega) (by decide) ?_
          rw [e17]
          refine tw_sg 4 (i1 := 27) (ls1 := [.ref 13, .int (nI nd), .int (nI c), .int (nI p), .int (nI n), .int (nI e), .int (nI a), .int (nI s), tw_U, tw_U, tw_U]) (st1 := [.int (nI nd), .ref 15]) (σ1 := σ) rfl ?_
          refine tw_al (k := 15) (j := nd) (len := 80) rfl rfl rfl rfl (rfl) (by omega) (by decide) ?_
          rw [e15]
          refine tw_sgn 8 (i1 := 36) (ls0 := [.ref 13, .int (nI nd), .int (nI c), .int (nI p), .int (nI n), .int (nI e), .int (nI a), .int (nI s), .int (nI q), .int (nI e + nI 1), tw_U]) (st0 := [.int (nI nd), .ref 14]) (σ0 := σ) (ls1 := [.ref 13, .int (nI nd), .int (nI c), .int (nI p), .int (nI n), .int (nI e), .int (nI a), .int (nI s), .int (nI q), .int (nI (e + 1)), tw_U]) (st1 := [.int (nI nd), .ref 14]) (σ1 := σ) rfl (by simp only [tw_nadd, tw_nmul]) (rfl) (rfl) ?_
          refine tw_alc (k := 14) (j := nd) (len := 80) rfl rfl rfl (rfl) (by omega) (by decide) ?_
          rw [e14]
          refine tw_swz (lo := 98) (j := 120) rfl (rfl) (by decide) (by decide) (by decide) rfl ?_
          show tw_P L xs _ 56 71 [.ref 13, .int (nI nd), .int (nI c), .int (nI p), .int (nI n), .int (nI e), .int (nI a), .int (nI s), .int (nI q), .int (nI (e + 1)), tw_U] [] σ _
          refine tw_sg 3 (i1 := 74) (ls1 := [.ref 13, .int (nI nd), .int (nI c), .int (nI p), .int (nI n), .int (nI e), .int (nI a), .int (nI s), .int (nI q), .int (nI (e + 1)), tw_U]) (st1 := [.int (nI q), .int (nI p), .ref 13]) (σ1 := σ) rfl ?_
          refine tw_cl0 0 rfl (rfl) (by omega) ?_
          show tw_P L xs _ 58 0 [.int (nI p), .int (nI q)] [] σ _
          refine tw_sg 1 (i1 := 1) (ls1 := [.int (nI p), .int (nI q)]) (st1 := [.int (nI q)]) (σ1 := σ) rfl ?_
          refine tw_bzF (c := .le) rfl (by rw [tw_cle', tw_nle (by omega) (by omega)] <;> omega) ?_
          show tw_P L xs _ 58 2 [.int (nI p), .int (nI q)] [] σ _
          refine tw_sg 2 (i1 := 4) (ls1 := [.int (nI p), .int (nI q)]) (st1 := [.int (nI q), .int (nI p)]) (σ1 := σ) rfl ?_
          refine tw_rm rfl (by rw [show (0 : Int32) = nI 0 from rfl, tw_neq (by omega) (by omega)]; omega) ?_
          rw [tw_nrem (a := p) (b := q) (by omega) (by omega)]
          refine tw_bzT (c := .ne) rfl (by rw [tw_cne, tw_neq (by omega) (by omega)] <;> omega) ?_
          show tw_P L xs _ 58 8 [.int (nI p), .int (nI q)] [] σ _
          refine tw_sg 1 (i1 := 9) (ls1 := [.int (nI p), .int (nI q)]) (st1 := [.int (nI 0)]) (σ1 := σ) rfl ?_
          refine tw_ri rfl (rfl) ?_
          show tw_P L xs _ 56 75 [.ref 13, .int (nI nd), .int (nI c), .int (nI p), .int (nI n), .int (nI e), .int (nI a), .int (nI s), .int (nI q), .int (nI (e + 1)), tw_U] [.int (nI 0), .ref 13] σ _
          refine tw_bzT (c := .eq) rfl (by rw [tw_ceq, tw_neq (by omega) (by omega)] <;> omega) ?_
          show tw_P L xs _ 56 78 [.ref 13, .int (nI nd), .int (nI c), .int (nI p), .int (nI n), .int (nI e), .int (nI a), .int (nI s), .int (nI q), .int (nI (e + 1)), tw_U] [.ref 13] σ _
          refine tw_sg 5 (i1 := 83) (ls1 := [.ref 13, .int (nI nd), .int (nI c), .int (nI p), .int (nI n), .int (nI e), .int (nI a), .int (nI s), .int (nI q), .int (nI (e + 1)), tw_U]) (st1 := [.int (nI (e + 1)), .int (nI n), .int (nI p), .int (nI c), .int (nI a), .ref 13]) (σ1 := σ) rfl ?_
          refine tw_cl1 rfl (rfl) (by omega) (ih (e + 1) a c p (by omega) hta (by omega) (by omega)) ?_
          rintro _ _ ⟨rfl, rfl⟩
          show tw_P L xs _ 56 84 [.ref 13, .int (nI nd), .int (nI c), .int (nI p), .int (nI n), .int (nI e), .int (nI a), .int (nI s), .int (nI q), .int (nI (e + 1)), tw_U] [.int (nI (tw_lvm μ n f a c p))] σ _
          refine tw_ri rfl (rfl) ?_
          exact ⟨by unfold tw_lvm; rw [tw_lv]; simp [eK, eN, eA, eS, hx]; try rfl, rfl⟩
      · skip
        show tw_P L xs _ 56 0 [.ref 13, .int (nI nd), .int (nI c), .int (nI p), .int (nI n), .int (nI e), tw_U, tw_U, tw_U, tw_U, tw_U] [] σ _
        refine tw_sg 1 (i1 := 1) (ls1 := [.ref 13, .int (nI nd), .int (nI c), .int (nI p), .int (nI n), .int (nI e), tw_U, tw_U, tw_U, tw_U, tw_U]) (st1 := [.int (nI nd)]) (σ1 := σ) rfl ?_
        refine tw_bzF (c := .lt) rfl (by rw [tw_clt', tw_nlt (by omega) (by omega)] <;> omega) ?_
        show tw_P L xs _ 56 2 [.ref 13, .int (nI nd), .int (nI c), .int (nI p), .int (nI n), .int (nI e), tw_U, tw_U, tw_U, tw_U, tw_U] [] σ _
        refine tw_sgn 3 (i1 := 5) (ls0 := [.ref 13, .int (nI nd), .int (nI c), .int (nI p), .int (nI n), .int (nI e), tw_U, tw_U, tw_U, tw_U, tw_U]) (st0 := [.int (σ 13 4), .int (nI nd)]) (σ0 := σ) (ls1 := [.ref 13, .int (nI nd), .int (nI c), .int (nI p), .int (nI n), .int (nI e), tw_U, tw_U, tw_U, tw_U, tw_U]) (st1 := [.int (nI k), .int (nI nd)]) (σ1 := σ) rfl (rfl) (by simp only [h13, tw_nadd, tw_nmul]) (rfl) ?_
        refine tw_biF (c := .ge) rfl (by rw [tw_cge', tw_nle (by omega) (by omega)] <;> omega) ?_
        show tw_P L xs _ 56 6 [.ref 13, .int (nI nd), .int (nI c), .int (nI p), .int (nI n), .int (nI e), tw_U, tw_U, tw_U, tw_U, tw_U] [] σ _
        refine tw_sg 2 (i1 := 8) (ls1 := [.ref 13, .int (nI nd), .int (nI c), .int (nI p), .int (nI n), .int (nI e), tw_U, tw_U, tw_U, tw_U, tw_U]) (st1 := [.int (nI 80), .int (nI nd)]) (σ1 := σ) rfl ?_
        refine tw_biF (c := .ge) rfl (by rw [tw_cge', tw_nle (by omega) (by omega)] <;> omega) ?_
        show tw_P L xs _ 56 9 [.ref 13, .int (nI nd), .int (nI c), .int (nI p), .int (nI n), .int (nI e), tw_U, tw_U, tw_U, tw_U, tw_U] [] σ _
        refine tw_sg 2 (i1 := 11) (ls1 := [.ref 13, .int (nI nd), .int (nI c), .int (nI p), .int (nI n), .int (nI e), tw_U, tw_U, tw_U, tw_U, tw_U]) (st1 := [.int (nI 6), .int (nI e)]) (σ1 := σ) rfl ?_
        refine tw_biT (c := .le) rfl (by rw [tw_cle, tw_nle (by omega) (by omega)] <;> omega) ?_
        show tw_P L xs _ 56 14 [.ref 13, .int (nI nd), .int (nI c), .int (nI p), .int (nI n), .int (nI e), tw_U, tw_U, tw_U, tw_U, tw_U] [] σ _
        refine tw_sg 3 (i1 := 17) (ls1 := [.ref 13, .int (nI nd), .int (nI c), .int (nI p), .int (nI n), .int (nI e), tw_U, tw_U, tw_U, tw_U, tw_U]) (st1 := [.int (nI nd), .ref 16]) (σ1 := σ) rfl ?_
        refine tw_al (k := 16) (j := nd) (len := 80) rfl rfl rfl rfl (rfl) (by omega) (by decide) ?_
        rw [e16]
        refine tw_sg 4 (i1 := 22) (ls1 := [.ref 13, .int (nI nd), .int (nI c), .int (nI p), .int (nI n), .int (nI e), .int (nI a), tw_U, tw_U, tw_U, tw_U]) (st1 := [.int (nI nd), .ref 17]) (σ1 := σ) rfl ?_
        refine tw_al (k := 17) (j := nd) (len := 80) rfl rfl rfl rfl (rfl) (by omega) (by decide) ?_
        refine tw_sg 4 (i1 := 27) (ls1 := [.ref 13, .int (nI nd), .int (nI c), .int (nI p), .int (nI n), .int (nI e), .int (nI a), .int (σ 17 nd), tw_U, tw_U, tw_U]) (st1 := [.int (nI nd), .ref 15]) (σ1 := σ) rfl ?_
        refine tw_al (k := 15) (j := nd) (len := 80) rfl rfl rfl rfl (rfl) (by omega) (by decide) ?_
        rw [e15]
        refine tw_sgn 8 (i1 := 36) (ls0 := [.ref 13, .int (nI nd), .int (nI c), .int (nI p), .int (nI n), .int (nI e), .int (nI a), .int (σ 17 nd), .int (nI q), .int (nI e + nI 1), tw_U]) (st0 := [.int (nI nd), .ref 14]) (σ0 := σ) (ls1 := [.ref 13, .int (nI nd), .int (nI c), .int (nI p), .int (nI n), .int (nI e), .int (nI a), .int (σ 17 nd), .int (nI q), .int (nI (e + 1)), tw_U]) (st1 := [.int (nI nd), .ref 14]) (σ1 := σ) rfl (by simp only [tw_nadd, tw_nmul]) (rfl) (rfl) ?_
        refine tw_alc (k := 14) (j := nd) (len := 80) rfl rfl rfl (rfl) (by omega) (by decide) ?_
        rw [e14]
        refine tw_swz (lo := 98) (j := 115) rfl (rfl) (by decide) (by decide) (by decide) rfl ?_
        show tw_P L xs _ 56 85 [.ref 13, .int (nI nd), .int (nI c), .int (nI p), .int (nI n), .int (nI e), .int (nI a), .int (σ 17 nd), .int (nI q), .int (nI (e + 1)), tw_U] [] σ _
        refine tw_sgn 8 (i1 := 93) (ls0 := [.ref 13, .int (nI nd), .int (nI c), .int (nI p), .int (nI n), .int (nI e), .int (nI a), .int (σ 17 nd), .int (nI q), .int (nI (e + 1)), tw_U]) (st0 := [.int (nI (e + 1)), .int (nI n), .int (nI p + nI q), .int (nI c), .int (nI a), .ref 13]) (σ0 := σ) (ls1 := [.ref 13, .int (nI nd), .int (nI c), .int (nI p), .int (nI n), .int (nI e), .int (nI a), .int (σ 17 nd), .int (nI q), .int (nI (e + 1)), tw_U]) (st1 := [.int (nI (e + 1)), .int (nI n), .int (nI (p + q)), .int (nI c), .int (nI a), .ref 13]) (σ1 := σ) rfl (rfl) (by simp only [tw_nadd, tw_nmul]) (rfl) ?_
        refine tw_cl1 rfl (rfl) (by omega) (ih (e + 1) a c (p + q) (by omega) hta (by omega) (by omega)) ?_
        rintro _ _ ⟨rfl, rfl⟩
        show tw_P L xs _ 56 94 [.ref 13, .int (nI nd), .int (nI c), .int (nI p), .int (nI n), .int (nI e), .int (nI a), .int (σ 17 nd), .int (nI q), .int (nI (e + 1)), tw_U] [.int (nI (tw_lvm μ n f a c (p + q)))] σ _
        refine tw_ri rfl (rfl) ?_
        exact ⟨by unfold tw_lvm; rw [tw_lv]; simp [eK, eN, eA]; try rfl, rfl⟩
      · skip
        show tw_P L xs _ 56 0 [.ref 13, .int (nI nd), .int (nI c), .int (nI p), .int (nI n), .int (nI e), tw_U, tw_U, tw_U, tw_U, tw_U] [] σ _
        refine tw_sg 1 (i1 := 1) (ls1 := [.ref 13, .int (nI nd), .int (nI c), .int (nI p), .int (nI n), .int (nI e), tw_U, tw_U, tw_U, tw_U, tw_U]) (st1 := [.int (nI nd)]) (σ1 := σ) rfl ?_
        refine tw_bzF (c := .lt) rfl (by rw [tw_clt', tw_nlt (by omega) (by omega)] <;> omega) ?_
        show tw_P L xs _ 56 2 [.ref 13, .int (nI nd), .int (nI c), .int (nI p), .int (nI n), .int (nI e), tw_U, tw_U, tw_U, tw_U, tw_U] [] σ _
        refine tw_sgn 3 (i1 := 5) (ls0 := [.ref 13, .int (nI nd), .int (nI c), .int (nI p), .int (nI n), .int (nI e), tw_U, tw_U, tw_U, tw_U, tw_U]) (st0 := [.int (σ 13 4), .int (nI nd)]) (σ0 := σ) (ls1 := [.ref 13, .int (nI nd), .int (nI c), .int (nI p), .int (nI n), .int (nI e), tw_U, tw_U, tw_U, tw_U, tw_U]) (st1 := [.int (nI k), .int (nI nd)]) (σ1 := σ) rfl (rfl) (by simp only [h13, tw_nadd, tw_nmul]) (rfl) ?_
        refine tw_biF (c := .ge) rfl (by rw [tw_cge', tw_nle (by omega) (by omega)] <;> omega) ?_
        show tw_P L xs _ 56 6 [.ref 13, .int (nI nd), .int (nI c), .int (nI p), .int (nI n), .int (nI e), tw_U, tw_U, tw_U, tw_U, tw_U] [] σ _
        refine tw_sg 2 (i1 := 8) (ls1 := [.ref 13, .int (nI nd), .int (nI c), .int (nI p), .int (nI n), .int (nI e), tw_U, tw_U, tw_U, tw_U, tw_U]) (st1 := [.int (nI 80), .int (nI nd)]) (σ1 := σ) rfl ?_
        refine tw_biF (c := .ge) rfl (by rw [tw_cge', tw_nle (by omega) (by omega)] <;> omega) ?_
        show tw_P L xs _ 56 9 [.ref 13, .int (nI nd), .int (nI c), .int (nI p), .int (nI n), .int (nI e), tw_U, tw_U, tw_U, tw_U, tw_U] [] σ _
        refine tw_sg 2 (i1 := 11) (ls1 := [.ref 13, .int (nI nd), .int (nI c), .int (nI p), .int (nI n), .int (nI e), tw_U, tw_U, tw_U, tw_U, tw_U]) (st1 := [.int (nI 6), .int (nI e)]) (σ1 := σ) rfl ?_
        refine tw_biT (c := .le) rfl (by rw [tw_cle, tw_nle (by omega) (by omega)] <;> omega) ?_
        show tw_P L xs _ 56 14 [.ref 13, .int (nI nd), .int (nI c), .int (nI p), .int (nI n), .int (nI e), tw_U, tw_U, tw_U, tw_U, tw_U] [] σ _
        refine tw_sg 3 (i1 := 17) (ls1 := [.ref 13, .int (nI nd), .int (nI c), .int (nI p), .int (nI n), .int (nI e), tw_U, tw_U, tw_U, tw_U, tw_U]) (st1 := [.int (nI nd), .ref 16]) (σ1 := σ) rfl ?_
        refine tw_al (k := 16) (j := nd) (len := 80) rfl rfl rfl rfl (rfl) (by omega) (by decide) ?_
        rw [e16]
        refine tw_sg 4 (i1 := 22) (ls1 := [.ref 13, .int (nI nd), .int (nI c), .int (nI p), .int (nI n), .int (nI e), .int (nI a), tw_U, tw_U, tw_U, tw_U]) (st1 := [.int (nI nd), .ref 17]) (σ1 := σ) rfl ?_
        refine tw_al (k := 17) (j := nd) (len := 80) rfl rfl rfl rfl (rfl) (by omega) (by decide) ?_
        refine tw_sg 4 (i1 := 27) (ls1 := [.ref 13, .int (nI nd), .int (nI c), .int (nI p), .int (nI n), .int (nI e), .int (nI a), .int (σ 17 nd), tw_U, tw_U, tw_U]) (st1 := [.int (nI nd), .ref 15]) (σ1 := σ) rfl ?_
        refine tw_al (k := 15) (j := nd) (len := 80) rfl rfl rfl rfl (rfl) (by omega) (by decide) ?_
        rw [e15]
        refine tw_sgn 8 (i1 := 36) (ls0 := [.ref 13, .int (nI nd), .int (nI c), .int (nI p), .int (nI n), .int (nI e), .int (nI a), .int (σ 17 nd), .int (nI q), .int (nI e + nI 1), tw_U]) (st0 := [.int (nI nd), .ref 14]) (σ0 := σ) (ls1 := [.ref 13, .int (nI nd), .int (nI c), .int (nI p), .int (nI n), .int (nI e), .int (nI a), .int (σ 17 nd), .int (nI q), .int (nI (e + 1)), tw_U]) (st1 := [.int (nI nd), .ref 14]) (σ1 := σ) rfl (by simp only [tw_nadd, tw_nmul]) (rfl) (rfl) ?_
        refine tw_alc (k := 14) (j := nd) (len := 80) rfl rfl rfl (rfl) (by omega) (by decide) ?_
        rw [e14]
        refine tw_swz (lo := 98) (j := 100) rfl (rfl) (by decide) (by decide) (by decide) rfl ?_
        show tw_P L xs _ 56 95 [.ref 13, .int (nI nd), .int (nI c), .int (nI p), .int (nI n), .int (nI e), .int (nI a), .int (σ 17 nd), .int (nI q), .int (nI (e + 1)), tw_U] [] σ _
        refine tw_sgn 8 (i1 := 103) (ls0 := [.ref 13, .int (nI nd), .int (nI c), .int (nI p), .int (nI n), .int (nI e), .int (nI a), .int (σ 17 nd), .int (nI q), .int (nI (e + 1)), tw_U]) (st0 := [.int (nI (e + 1)), .int (nI n), .int (nI p + nI c), .int (nI c), .int (nI a), .ref 13]) (σ0 := σ) (ls1 := [.ref 13, .int (nI nd), .int (nI c), .int (nI p), .int (nI n), .int (nI e), .int (nI a), .int (σ 17 nd), .int (nI q), .int (nI (e + 1)), tw_U]) (st1 := [.int (nI (e + 1)), .int (nI n), .int (nI (p + c)), .int (nI c), .int (nI a), .ref 13]) (σ1 := σ) rfl (rfl) (by simp only [tw_nadd, tw_nmul]) (rfl) ?_
        refine tw_cl1 rfl (rfl) (by omega) (ih (e + 1) a c (p + c) (by omega) hta (by omega) (by omega)) ?_
        rintro _ _ ⟨rfl, rfl⟩
        show tw_P L xs _ 56 104 [.ref 13, .int (nI nd), .int (nI c), .int (nI p), .int (nI n), .int (nI e), .int (nI a), .int (σ 17 nd), .int (nI q), .int (nI (e + 1)), tw_U] [.int (nI (tw_lvm μ n f a c (p + c)))] σ _
        refine tw_ri rfl (rfl) ?_
        exact ⟨by unfold tw_lvm; rw [tw_lv]; simp [eK, eN, eA]; try rfl, rfl⟩
      · skip
        have hb := @tw_lvm_le μ n f a c p
        show tw_P L xs _ 56 0 [.ref 13, .int (nI nd), .int (nI c), .int (nI p), .int (nI n), .int (nI e), tw_U, tw_U, tw_U, tw_U, tw_U] [] σ _
        refine tw_sg 1 (i1 := 1) (ls1 := [.ref 13, .int (nI nd), .int (nI c), .int (nI p), .int (nI n), .int (nI e), tw_U, tw_U, tw_U, tw_U, tw_U]) (st1 := [.int (nI nd)]) (σ1 := σ) rfl ?_
        refine tw_bzF (c := .lt) rfl (by rw [tw_clt', tw_nlt (by omega) (by omega)] <;> omega) ?_
        show tw_P L xs _ 56 2 [.ref 13, .int (nI nd), .int (nI c), .int (nI p), .int (nI n), .int (nI e), tw_U, tw_U, tw_U, tw_U, tw_U] [] σ _
        refine tw_sgn 3 (i1 := 5) (ls0 := [.ref 13, .int (nI nd), .int (nI c), .int (nI p), .int (nI n), .int (nI e), tw_U, tw_U, tw_U, tw_U, tw_U]) (st0 := [.int (σ 13 4), .int (nI nd)]) (σ0 := σ) (ls1 := [.ref 13, .int (nI nd), .int (nI c), .int (nI p), .int (nI n), .int (nI e), tw_U, tw_U, tw_U, tw_U, tw_U]) (st1 := [.int (nI k), .int (nI nd)]) (σ1 := σ) rfl (rfl) (by simp only [h13, tw_nadd, tw_nmul]) (rfl) ?_
        refine tw_biF (c := .ge) rfl (by rw [tw_cge', tw_nle (by omega) (by omega)] <;> omega) ?_
        show tw_P L xs _ 56 6 [.ref 13, .int (nI nd), .int (nI c), .int (nI p), .int (nI n), .int (nI e), tw_U, tw_U, tw_U, tw_U, tw_U] [] σ _
        refine tw_sg 2 (i1 := 8) (ls1 := [.ref 13, .int (nI nd), .int (nI c), .int (nI p), .int (nI n), .int (nI e), tw_U, tw_U, tw_U, tw_U, tw_U]) (st1 := [.int (nI 80), .int (nI nd)]) (σ1 := σ) rfl ?_
        refine tw_biF (c := .ge) rfl (by rw [tw_cge', tw_nle (by omega) (by omega)] <;> omega) ?_
        show tw_P L xs _ 56 9 [.ref 13, .int (nI nd), .int (nI c), .int (nI p), .int (nI n), .int (nI e), tw_U, tw_U, tw_U, tw_U, tw_U] [] σ _
        refine tw_sg 2 (i1 := 11) (ls1 := [.ref 13, .int (nI nd), .int (nI c), .int (nI p), .int (nI n), .int (nI e), tw_U, tw_U, tw_U, tw_U, tw_U]) (st1 := [.int (nI 6), .int (nI e)]) (σ1 := σ) rfl ?_
        refine tw_biT (c := .le) rfl (by rw [tw_cle, tw_nle (by omega) (by omega)] <;> omega) ?_
        show tw_P L xs _ 56 14 [.ref 13, .int (nI nd), .int (nI c), .int (nI p), .int (nI n), .int (nI e), tw_U, tw_U, tw_U, tw_U, tw_U] [] σ _
        refine tw_sg 3 (i1 := 17) (ls1 := [.ref 13, .int (nI nd), .int (nI c), .int (nI p), .int (nI n), .int (nI e), tw_U, tw_U, tw_U, tw_U, tw_U]) (st1 := [.int (nI nd), .ref 16]) (σ1 := σ) rfl ?_
        refine tw_al (k := 16) (j := nd) (len := 80) rfl rfl rfl rfl (rfl) (by omega) (by decide) ?_
        rw [e16]
        refine tw_sg 4 (i1 := 22) (ls1 := [.ref 13, .int (nI nd), .int (nI c), .int (nI p), .int (nI n), .int (nI e), .int (nI a), tw_U, tw_U, tw_U, tw_U]) (st1 := [.int (nI nd), .ref 17]) (σ1 := σ) rfl ?_
        refine tw_al (k := 17) (j := nd) (len := 80) rfl rfl rfl rfl (rfl) (by omega) (by decide) ?_
        refine tw_sg 4 (i1 := 27) (ls1 := [.ref 13, .int (nI nd), .int (nI c), .int (nI p), .int (nI n), .int (nI e), .int (nI a), .int (σ 17 nd), tw_U, tw_U, tw_U]) (st1 := [.int (nI nd), .ref 15]) (σ1 := σ) rfl ?_
        refine tw_al (k := 15) (j := nd) (len := 80) rfl rfl rfl rfl (rfl) (by omega) (by decide) ?_
        rw [e15]
        refine tw_sgn 8 (i1 := 36) (ls0 := [.ref 13, .int (nI nd), .int (nI c), .int (nI p), .int (nI n), .int (nI e), .int (nI a), .int (σ 17 nd), .int (nI q), .int (nI e + nI 1), tw_U]) (st0 := [.int (nI nd), .ref 14]) (σ0 := σ) (ls1 := [.ref 13, .int (nI nd), .int (nI c), .int (nI p), .int (nI n), .int (nI e), .int (nI a), .int (σ 17 nd), .int (nI q), .int (nI (e + 1)), tw_U]) (st1 := [.int (nI nd), .ref 14]) (σ1 := σ) rfl (by simp only [tw_nadd, tw_nmul]) (rfl) (rfl) ?_
        refine tw_alc (k := 14) (j := nd) (len := 80) rfl rfl rfl (rfl) (by omega) (by decide) ?_
        rw [e14]
        refine tw_swz (lo := 98) (j := 114) rfl (rfl) (by decide) (by decide) (by decide) rfl ?_
        show tw_P L xs _ 56 105 [.ref 13, .int (nI nd), .int (nI c), .int (nI p), .int (nI n), .int (nI e), .int (nI a), .int (σ 17 nd), .int (nI q), .int (nI (e + 1)), tw_U] [] σ _
        refine tw_sg 6 (i1 := 111) (ls1 := [.ref 13, .int (nI nd), .int (nI c), .int (nI p), .int (nI n), .int (nI e), .int (nI a), .int (σ 17 nd), .int (nI q), .int (nI (e + 1)), tw_U]) (st1 := [.int (nI (e + 1)), .int (nI n), .int (nI p), .int (nI c), .int (nI a), .ref 13]) (σ1 := σ) rfl ?_
        refine tw_cl1 rfl (rfl) (by omega) (ih (e + 1) a c p (by omega) hta (by omega) (by omega)) ?_
        rintro _ _ ⟨rfl, rfl⟩
        show tw_P L xs _ 56 112 [.ref 13, .int (nI nd), .int (nI c), .int (nI p), .int (nI n), .int (nI e), .int (nI a), .int (σ 17 nd), .int (nI q), .int (nI (e + 1)), tw_U] [.int (nI (tw_lvm μ n f a c p))] σ _
        refine tw_cl1 rfl (rfl) (by omega) (tw_e_reversed tw_lvm_le) ?_
        rintro _ _ ⟨rfl, rfl⟩
        show tw_P L xs _ 56 113 [.ref 13, .int (nI nd), .int (nI c), .int (nI p), .int (nI n), .int (nI e), .int (nI a), .int (σ 17 nd), .int (nI q), .int (nI (e + 1)), tw_U] [.int (nI (tw_rvT (tw_lvm μ n f a c p)))] σ _
        refine tw_ri rfl (rfl) ?_
        exact ⟨by unfold tw_lvm; rw [tw_lv]; simp [eK, eN, eA]; try rfl, rfl⟩
      · skip
        show tw_P L xs _ 56 0 [.ref 13, .int (nI nd), .int (nI c), .int (nI p), .int (nI n), .int (nI e), tw_U, tw_U, tw_U, tw_U, tw_U] [] σ _
        refine tw_sg 1 (i1 := 1) (ls1 := [.ref 13, .int (nI nd), .int (nI c), .int (nI p), .int (nI n), .int (nI e), tw_U, tw_U, tw_U, tw_U, tw_U]) (st1 := [.int (nI nd)]) (σ1 := σ) rfl ?_
        refine tw_bzF (c := .lt) rfl (by rw [tw_clt', tw_nlt (by omega) (by omega)] <;> omega) ?_
        show tw_P L xs _ 56 2 [.ref 13, .int (nI nd), .int (nI c), .int (nI p), .int (nI n), .int (nI e), tw_U, tw_U, tw_U, tw_U, tw_U] [] σ _
        refine tw_sgn 3 (i1 := 5) (ls0 := [.ref 13, .int (nI nd), .int (nI c), .int (nI p), .int (nI n), .int (nI e), tw_U, tw_U, tw_U, tw_U, tw_U]) (st0 := [.int (σ 13 4), .int (nI nd)]) (σ0 := σ) (ls1 := [.ref 13, .int (nI nd), .int (nI c), .int (nI p), .int (nI n), .int (nI e), tw_U, tw_U, tw_U, tw_U, tw_U]) (st1 := [.int (nI k), .int (nI nd)]) (σ1 := σ) rfl (rfl) (by simp only [h13, tw_nadd, tw_nmul]) (rfl) ?_
        refine tw_biF (c := .ge) rfl (by rw [tw_cge', tw_nle (by omega) (by omega)] <;> omega) ?_
        show tw_P L xs _ 56 6 [.ref 13, .int (nI nd), .int (nI c), .int (nI p), .int (nI n), .int (nI e), tw_U, tw_U, tw_U, tw_U, tw_U] [] σ _
        refine tw_sg 2 (i1 := 8) (ls1 := [.ref 13, .int (nI nd), .int (nI c), .int (nI p), .int (nI n), .int (nI e), tw_U, tw_U, tw_U, tw_U, tw_U]) (st1 := [.int (nI 80), .int (nI nd)]) (σ1 := σ) rfl ?_
        refine tw_biF (c := .ge) rfl (by rw [tw_cge', tw_nle (by omega) (by omega)] <;> omega) ?_
        show tw_P L xs _ 56 9 [.ref 13, .int (nI nd), .int (nI c), .int (nI p), .int (nI n), .int (nI e), tw_U, tw_U, tw_U, tw_U, tw_U] [] σ _
        refine tw_sg 2 (i1 := 11) (ls1 := [.ref 13, .int (nI nd), .int (nI c), .int (nI p), .int (nI n), .int (nI e), tw_U, tw_U, tw_U, tw_U, tw_U]) (st1 := [.int (nI 6), .int (nI e)]) (σ1 := σ) rfl ?_
        refine tw_biT (c := .le) rfl (by rw [tw_cle, tw_nle (by omega) (by omega)] <;> omega) ?_
        show tw_P L xs _ 56 14 [.ref 13, .int (nI nd), .int (nI c), .int (nI p), .int (nI n), .int (nI e), tw_U, tw_U, tw_U, tw_U, tw_U] [] σ _
        refine tw_sg 3 (i1 := 17) (ls1 := [.ref 13, .int (nI nd), .int (nI c), .int (nI p), .int (nI n), .int (nI e), tw_U, tw_U, tw_U, tw_U, tw_U]) (st1 := [.int (nI nd), .ref 16]) (σ1 := σ) rfl ?_
        refine tw_al (k := 16) (j := nd) (len := 80) rfl rfl rfl rfl (rfl) (by omega) (by decide) ?_
        rw [e16]
        refine tw_sg 4 (i1 := 22) (ls1 := [.ref 13, .int (nI nd), .int (nI c), .int (nI p), .int (nI n), .int (nI e), .int (nI a), tw_U, tw_U, tw_U, tw_U]) (st1 := [.int (nI nd), .ref 17]) (σ1 := σ) rfl ?_
        refine tw_al (k := 17) (j := nd) (len := 80) rfl rfl rfl rfl (rfl) (by omega) (by decide) ?_
        refine tw_sg 4 (i1 := 27) (ls1 := [.ref 13, .int (nI nd), .int (nI c), .int (nI p), .int (nI n), .int (nI e), .int (nI a), .int (σ 17 nd), tw_U, tw_U, tw_U]) (st1 := [.int (nI nd), .ref 15]) (σ1 := σ) rfl ?_
        refine tw_al (k := 15) (j := nd) (len := 80) rfl rfl rfl rfl (rfl) (by omega) (by decide) ?_
        rw [e15]
        refine tw_sgn 8 (i1 := 36) (ls0 := [.ref 13, .int (nI nd), .int (nI c), .int (nI p), .int (nI n), .int (nI e), .int (nI a), .int (σ 17 nd), .int (nI q), .int (nI e + nI 1), tw_U]) (st0 := [.int (nI nd), .ref 14]) (σ0 := σ) (ls1 := [.ref 13, .int (nI nd), .int (nI c), .int (nI p), .int (nI n), .int (nI e), .int (nI a), .int (σ 17 nd), .int (nI q), .int (nI (e + 1)), tw_U]) (st1 := [.int (nI nd), .ref 14]) (σ1 := σ) rfl (by simp only [tw_nadd, tw_nmul]) (rfl) (rfl) ?_
        refine tw_alc (k := 14) (j := nd) (len := 80) rfl rfl rfl (rfl) (by omega) (by decide) ?_
        rw [e14]
        refine tw_swz (lo := 98) (j := 109) rfl (rfl) (by decide) (by decide) (by decide) rfl ?_
        show tw_P L xs _ 56 114 [.ref 13, .int (nI nd), .int (nI c), .int (nI p), .int (nI n), .int (nI e), .int (nI a), .int (σ 17 nd), .int (nI q), .int (nI (e + 1)), tw_U] [] σ _
        refine tw_sgn 10 (i1 := 124) (ls0 := [.ref 13, .int (nI nd), .int (nI c), .int (nI p), .int (nI n), .int (nI e), .int (nI a), .int (σ 17 nd), .int (nI q), .int (nI (e + 1)), tw_U]) (st0 := [.int (nI (e + 1)), .int (nI n), .int (nI p), .int ((nI n - nI 1) - nI c), .int (nI a), .ref 13]) (σ0 := σ) (ls1 := [.ref 13, .int (nI nd), .int (nI c), .int (nI p), .int (nI n), .int (nI e), .int (nI a), .int (σ 17 nd), .int (nI q), .int (nI (e + 1)), tw_U]) (st1 := [.int (nI (e + 1)), .int (nI n), .int (nI p), .int (nI (n - 1 - c)), .int (nI a), .ref 13]) (σ1 := σ) rfl (rfl) (by simp only [tw_nsub (show 1 ≤ n by omega), tw_nsub (show c ≤ n - 1 by omega), tw_nadd, tw_nmul]) (rfl) ?_
        refine tw_cl1 rfl (rfl) (by omega) (ih (e + 1) a (n - 1 - c) p (by omega) hta (by omega) (by omega)) ?_
        rintro _ _ ⟨rfl, rfl⟩
        show tw_P L xs _ 56 125 [.ref 13, .int (nI nd), .int (nI c), .int (nI p), .int (nI n), .int (nI e), .int (nI a), .int (σ 17 nd), .int (nI q), .int (nI (e + 1)), tw_U] [.int (nI (tw_lvm μ n f a (n - 1 - c) p))] σ _
        refine tw_ri rfl (rfl) ?_
        exact ⟨by unfold tw_lvm; rw [tw_lv]; simp [eK, eN, eA]; try rfl, rfl⟩
      · skip
        obtain ⟨s, e17, e102, hts⟩ := hs (by unfold tw_pair; omega)
        have m102 : μ 102 nd = nI s := e102
        have e17 : σ 17 nd = nI s := (hμ 17 nd (by omega) (by omega)).trans e17
        have hs80 : s < 80 := by
          cases f with
          | zero => exact absurd hts (fun h => h)
          | succ f => exact Nat.lt_of_lt_of_le hts.1 hk
        have eS : (μ 102 nd).toNatClampNeg = s := by rw [m102]; exact tw_nclamp (by omega)
        have hb := @tw_lvm_le μ n f a c p
        by_cases hx : tw_lvm μ n f a c p = 0
        · skip
          show tw_P L xs _ 56 0 [.ref 13, .int (nI nd), .int (nI c), .int (nI p), .int (nI n), .int (nI e), tw_U, tw_U, tw_U, tw_U, tw_U] [] σ _
          refine tw_sg 1 (i1 := 1) (ls1 := [.ref 13, .int (nI nd), .int (nI c), .int (nI p), .int (nI n), .int (nI e), tw_U, tw_U, tw_U, tw_U, tw_U]) (st1 := [.int (nI nd)]) (σ1 := σ) rfl ?_
          refine tw_bzF (c := .lt) rfl (by rw [tw_clt', tw_nlt (by omega) (by omega)] <;> omega) ?_
          show tw_P L xs _ 56 2 [.ref 13, .int (nI nd), .int (nI c), .int (nI p), .int (nI n), .int (nI e), tw_U, tw_U, tw_U, tw_U, tw_U] [] σ _
          refine tw_sgn 3 (i1 := 5) (ls0 := [.ref 13, .int (nI nd), .int (nI c), .int (nI p), .int (nI n), .int (nI e), tw_U, tw_U, tw_U, tw_U, tw_U]) (st0 := [.int (σ 13 4), .int (nI nd)]) (σ0 := σ) (ls1 := [.ref 13, .int (nI nd), .int (nI c), .int (nI p), .int (nI n), .int (nI e), tw_U, tw_U, tw_U, tw_U, tw_U]) (st1 := [.int (nI k), .int (nI nd)]) (σ1 := σ) rfl (rfl) (by simp only [h13, tw_nadd, tw_nmul]) (rfl) ?_
          refine tw_biF (c := .ge) rfl (by rw [tw_cge', tw_nle (by omega) (by omega)] <;> omega) ?_
          show tw_P L xs _ 56 6 [.ref 13, .int (nI nd), .int (nI c), .int (nI p), .int (nI n), .int (nI e), tw_U, tw_U, tw_U, tw_U, tw_U] [] σ _
          refine tw_sg 2 (i1 := 8) (ls1 := [.ref 13, .int (nI nd), .int (nI c), .int (nI p), .int (nI n), .int (nI e), tw_U, tw_U, tw_U, tw_U, tw_U]) (st1 := [.int (nI 80), .int (nI nd)]) (σ1 := σ) rfl ?_
          refine tw_biF (c := .ge) rfl (by rw [tw_cge', tw_nle (by omega) (by omega)] <;> omega) ?_
          show tw_P L xs _ 56 9 [.ref 13, .int (nI nd), .int (nI c), .int (nI p), .int (nI n), .int (nI e), tw_U, tw_U, tw_U, tw_U, tw_U] [] σ _
          refine tw_sg 2 (i1 := 11) (ls1 := [.ref 13, .int (nI nd), .int (nI c), .int (nI p), .int (nI n), .int (nI e), tw_U, tw_U, tw_U, tw_U, tw_U]) (st1 := [.int (nI 6), .int (nI e)]) (σ1 := σ) rfl ?_
          refine tw_biT (c := .le) rfl (by rw [tw_cle, tw_nle (by omega) (by omega)] <;> omega) ?_
          show tw_P L xs _ 56 14 [.ref 13, .int (nI nd), .int (nI c), .int (nI p), .int (nI n), .int (nI e), tw_U, tw_U, tw_U, tw_U, tw_U] [] σ _
          refine tw_sg 3 (i1 := 17) (ls1 := [.ref 13, .int (nI nd), .int (nI c), .int (nI p), .int (nI n), .int (nI e), tw_U, tw_U, tw_U, tw_U, tw_U]) (st1 := [.int (nI nd), .ref 16]) (σ1 := σ) rfl ?_
          refine tw_al (k := 16) (j := nd) (len := 80) rfl rfl rfl rfl (rfl) (by omega) (by decide) ?_
          rw [e16]
          refine tw_sg 4 (i1 := 22) (ls1 := [.ref 13, .int (nI nd), .int (nI c), .int (nI p), .int (nI n), .int (nI e), .int (nI a), tw_U, tw_U, tw_U, tw_U]) (st1 := [.int (nI nd), .ref 17]) (σ1 := σ) rfl ?_
          refine tw_al (k := 17) (j := nd) (len := 80) rfl rfl rfl rfl (rfl) (by omega) (by decide) ?_
          rw [e17]
          refine tw_sg 4 (i1 := 27) (ls1 := [.ref 13, .int (nI nd), .int (nI c), .int (nI p), .int (nI n), .int (nI e), .int (nI a), .int (nI s), tw_U, tw_U, tw_U]) (st1 := [.int (nI nd), .ref 15]) (σ1 := σ) rfl ?_
          refine tw_al (k := 15) (j := nd) (len := 80) rfl rfl rfl rfl (rfl) (by omega) (by decide) ?_
          rw [e15]
          refine tw_sgn 8 (i1 := 36) (ls0 := [.ref 13, .int (nI nd), .int (nI c), .int (nI p), .int (nI n), .int (nI e), .int (nI a), .int (nI s), .int (nI q), .int (nI e + nI 1), tw_U]) (st0 := [.int (nI nd), .ref 14]) (σ0 := σ) (ls1 := [.ref 13, .int (nI nd), .int (nI c), .int (nI p), .int (nI n), .int (nI e), .int (nI a), .int (nI s), .int (nI q), .int (nI (e + 1)), tw_U]) (st1 := [.int (nI nd), .ref 14]) (σ1 := σ) rfl (by simp only [tw_nadd, tw_nmul]) (rfl) (rfl) ?_
          refine tw_alc (k := 14) (j := nd) (len := 80) rfl rfl rfl (rfl) (by omega) (by decide) ?_
          rw [e14]
          refine tw_swz (lo := 98) (j := 116) rfl (rfl) (by decide) (by decide) (by decide) rfl ?_
          show tw_P L xs _ 56 126 [.ref 13, .int (nI nd), .int (nI c), .int (nI p), .int (nI n), .int (nI e), .int (nI a), .int (nI s), .int (nI q), .int (nI (e + 1)), tw_U] [] σ _
          refine tw_sg 6 (i1 := 132) (ls1 := [.ref 13, .int (nI nd), .int (nI c), .int (nI p), .int (nI n), .int (nI e), .int (nI a), .int (nI s), .int (nI q), .int (nI (e + 1)), tw_U]) (st1 := [.int (nI (e + 1)), .int (nI n), .int (nI p), .int (nI c), .int (nI a), .ref 13]) (σ1 := σ) rfl ?_
          refine tw_cl1 rfl (rfl) (by omega) (ih (e + 1) a c p (by omega) hta (by omega) (by omega)) ?_
          rintro _ _ ⟨rfl, rfl⟩
          show tw_P L xs _ 56 133 [.ref 13, .int (nI nd), .int (nI c), .int (nI p), .int (nI n), .int (nI e), .int (nI a), .int (nI s), .int (nI q), .int (nI (e + 1)), tw_U] [.int (nI (tw_lvm μ n f a c p))] σ _
          refine tw_sg 2 (i1 := 135) (ls1 := [.ref 13, .int (nI nd), .int (nI c), .int (nI p), .int (nI n), .int (nI e), .int (nI a), .int (nI s), .int (nI q), .int (nI (e + 1)), .int (nI (tw_lvm μ n f a c p))]) (st1 := [.int (nI (tw_lvm μ n f a c p))]) (σ1 := σ) rfl ?_
          refine tw_bzT (c := .eq) rfl (by rw [tw_ceq] <;> (rw [tw_neq (by omega) (by omega)]; exact hx)) ?_
          show tw_P L xs _ 56 138 [.ref 13, .int (nI nd), .int (nI c), .int (nI p), .int (nI n), .int (nI e), .int (nI a), .int (nI s), .int (nI q), .int (nI (e + 1)), .int (nI (tw_lvm μ n f a c p))] [] σ _
          refine tw_sg 6 (i1 := 144) (ls1 := [.ref 13, .int (nI nd), .int (nI c), .int (nI p), .int (nI n), .int (nI e), .int (nI a), .int (nI s), .int (nI q), .int (nI (e + 1)), .int (nI (tw_lvm μ n f a c p))]) (st1 := [.int (nI (e + 1)), .int (nI n), .int (nI p), .int (nI c), .int (nI s), .ref 13]) (σ1 := σ) rfl ?_
          refine tw_cl1 rfl (rfl) (by omega) (ih (e + 1) s c p (by omega) hts (by omega) (by omega)) ?_
          rintro _ _ ⟨rfl, rfl⟩
          show tw_P L xs _ 56 145 [.ref 13, .int (nI nd), .int (nI c), .int (nI p), .int (nI n), .int (nI e), .int (nI a), .int (nI s), .int (nI q), .int (nI (e + 1)), .int (nI (tw_lvm μ n f a c p))] [.int (nI (tw_lvm μ n f s c p))] σ _
          refine tw_ri rfl (rfl) ?_
          exact ⟨by unfold tw_lvm at hx ⊢; rw [tw_lv]; simp [eK, eN, eA, eS, hx], rfl⟩
        · skip
          show tw_P L xs _ 56 0 [.ref 13, .int (nI nd), .int (nI c), .int (nI p), .int (nI n), .int (nI e), tw_U, tw_U, tw_U, tw_U, tw_U] [] σ _
          refine tw_sg 1 (i1 := 1) (ls1 := [.ref 13, .int (nI nd), .int (nI c), .int (nI p), .int (nI n), .int (nI e), tw_U, tw_U, tw_U, tw_U, tw_U]) (st1 := [.int (nI nd)]) (σ1 := σ) rfl ?_
          refine tw_bzF (c := .lt) rfl (by rw [tw_clt', tw_nlt (by omega) (by omega)] <;> omega) ?_
          show tw_P L xs _ 56 2 [.ref 13, .int (nI nd), .int (nI c), .int (nI p), .int (nI n), .int (nI e), tw_U, tw_U, tw_U, tw_U, tw_U] [] σ _
          refine tw_sgn 3 (i1 := 5) (ls0 := [.ref 13, .int (nI nd), .int (nI c), .int (nI p), .int (nI n), .int (nI e), tw_U, tw_U, tw_U, tw_U, tw_U]) (st0 := [.int (σ 13 4), .int (nI nd)]) (σ0 := σ) (ls1 := [.ref 13, .int (nI nd), .int (nI c), .int (nI p), .int (nI n), .int (nI e), tw_U, tw_U, tw_U, tw_U, tw_U]) (st1 := [.int (nI k), .int (nI nd)]) (σ1 := σ) rfl (rfl) (by simp only [h13, tw_nadd, tw_nmul]) (rfl) ?_
          refine tw_biF (c := .ge) rfl (by rw [tw_cge', tw_nle (by omega) (by omega)] <;> omega) ?_
          show tw_P L xs _ 56 6 [.ref 13, .int (nI nd), .int (nI c), .int (nI p), .int (nI n), .int (nI e), tw_U, tw_U, tw_U, tw_U, tw_U] [] σ _
          refine tw_sg 2 (i1 := 8) (ls1 := [.ref 13, .int (nI nd), .int (nI c), .int (nI p), .int (nI n), .int (nI e), tw_U, tw_U, tw_U, tw_U, tw_U]) (st1 := [.int (nI 80), .int (nI nd)]) (σ1 := σ) rfl ?_
          refine tw_biF (c := .ge) rfl (by rw [tw_cge', tw_nle (by omega) (by omega)] <;> omega) ?_
          show tw_P L xs _ 56 9 [.ref 13, .int (nI nd), .int (nI c), .int (nI p), .int (nI n), .int (nI e), tw_U, tw_U, tw_U, tw_U, tw_U] [] σ _
          refine tw_sg 2 (i1 := 11) (ls1 := [.ref 13, .int (nI nd), .int (nI c), .int (nI p), .int (nI n), .int (nI e), tw_U, tw_U, tw_U, tw_U, tw_U]) (st1 := [.int (nI 6), .int (nI e)]) (σ1 := σ) rfl ?_
          refine tw_biT (c := .le) rfl (by rw [tw_cle, tw_nle (by omega) (by omega)] <;> omega) ?_
          show tw_P L xs _ 56 14 [.ref 13, .int (nI nd), .int (nI c), .int (nI p), .int (nI n), .int (nI e), tw_U, tw_U, tw_U, tw_U, tw_U] [] σ _
          refine tw_sg 3 (i1 := 17) (ls1 := [.ref 13, .int (nI nd), .int (nI c), .int (nI p), .int (nI n), .int (nI e), tw_U, tw_U, tw_U, tw_U, tw_U]) (st1 := [.int (nI nd), .ref 16]) (σ1 := σ) rfl ?_
          refine tw_al (k := 16) (j := nd) (len := 80) rfl rfl rfl rfl (rfl) (by omega) (by decide) ?_
          rw [e16]
          refine tw_sg 4 (i1 := 22) (ls1 := [.ref 13, .int (nI nd), .int (nI c), .int (nI p), .int (nI n), .int (nI e), .int (nI a), tw_U, tw_U, tw_U, tw_U]) (st1 := [.int (nI nd), .ref 17]) (σ1 := σ) rfl ?_
          refine tw_al (k := 17) (j := nd) (len := 80) rfl rfl rfl rfl (rfl) (by omega) (by decide) ?_
          rw [e17]
          refine tw_sg 4 (i1 := 27) (ls1 := [.ref 13, .int (nI nd), .int (nI c), .int (nI p), .int (nI n), .int (nI e), .int (nI a), .int (nI s), tw_U, tw_U, tw_U]) (st1 := [.int (nI nd), .ref 15]) (σ1 := σ) rfl ?_
          refine tw_al (k := 15) (j := nd) (len := 80) rfl rfl rfl rfl (rfl) (by omega) (by decide) ?_
          rw [e15]
          refine tw_sgn 8 (i1 := 36) (ls0 := [.ref 13, .int (nI nd), .int (nI c), .int (nI p), .int (nI n), .int (nI e), .int (nI a), .int (nI s), .int (nI q), .int (nI e + nI 1), tw_U]) (st0 := [.int (nI nd), .ref 14]) (σ0 := σ) (ls1 := [.ref 13, .int (nI nd), .int (nI c), .int (nI p), .int (nI n), .int (nI e), .int (nI a), .int (nI s), .int (nI q), .int (nI (e + 1)), tw_U]) (st1 := [.int (nI nd), .ref 14]) (σ1 := σ) rfl (by simp only [tw_nadd, tw_nmul]) (rfl) (rfl) ?_
          refine tw_alc (k := 14) (j := nd) (len := 80) rfl rfl rfl (rfl) (by omega) (by decide) ?_
          rw [e14]
          refine tw_swz (lo := 98) (j := 116) rfl (rfl) (by decide) (by decide) (by decide) rfl ?_
          show tw_P L xs _ 56 126 [.ref 13, .int (nI nd), .int (nI c), .int (nI p), .int (nI n), .int (nI e), .int (nI a), .int (nI s), .int (nI q), .int (nI (e + 1)), tw_U] [] σ _
          refine tw_sg 6 (i1 := 132) (ls1 := [.ref 13, .int (nI nd), .int (nI c), .int (nI p), .int (nI n), .int (nI e), .int (nI a), .int (nI s), .int (nI q), .int (nI (e + 1)), tw_U]) (st1 := [.int (nI (e + 1)), .int (nI n), .int (nI p), .int (nI c), .int (nI a), .ref 13]) (σ1 := σ) rfl ?_
          refine tw_cl1 rfl (rfl) (by omega) (ih (e + 1) a c p (by omega) hta (by omega) (by omega)) ?_
          rintro _ _ ⟨rfl, rfl⟩
          show tw_P L xs _ 56 133 [.ref 13, .int (nI nd), .int (nI c), .int (nI p), .int (nI n), .int (nI e), .int (nI a), .int (nI s), .int (nI q), .int (nI (e + 1)), tw_U] [.int (nI (tw_lvm μ n f a c p))] σ _
          refine tw_sg 2 (i1 := 135) (ls1 := [.ref 13, .int (nI nd), .int (nI c), .int (nI p), .int (nI n), .int (nI e), .int (nI a), .int (nI s), .int (nI q), .int (nI (e + 1)), .int (nI (tw_lvm μ n f a c p))]) (st1 := [.int (nI (tw_lvm μ n f a c p))]) (σ1 := σ) rfl ?_
          refine tw_bzF (c := .eq) rfl (by rw [tw_ceq'] <;> (rw [tw_neq (by omega) (by omega)]; exact hx)) ?_
          show tw_P L xs _ 56 136 [.ref 13, .int (nI nd), .int (nI c), .int (nI p), .int (nI n), .int (nI e), .int (nI a), .int (nI s), .int (nI q), .int (nI (e + 1)), .int (nI (tw_lvm μ n f a c p))] [] σ _
          refine tw_sg 2 (i1 := 145) (ls1 := [.ref 13, .int (nI nd), .int (nI c), .int (nI p), .int (nI n), .int (nI e), .int (nI a), .int (nI s), .int (nI q), .int (nI (e + 1)), .int (nI (tw_lvm μ n f a c p))]) (st1 := [.int (nI (tw_lvm μ n f a c p))]) (σ1 := σ) rfl ?_
          refine tw_ri rfl (rfl) ?_
          exact ⟨by unfold tw_lvm at hx ⊢; rw [tw_lv]; simp [eK, eN, eA, eS, hx], rfl⟩
set_option maxHeartbeats 4000000 in
set_option maxRecDepth 100000 in
theorem tw_e_lawOf {L : Nat} {xs : Nat → Int32} {σ μ : tw_Mem} {n k : Nat} (h10 : n ≤ 10) (hk : k ≤ 80) (hn89 : σ 89 0 = nI n) (hμ : ∀ k j, 99 ≤ k → k ≤ 102 → σ k j = μ k j) : ∀ (f nd c p : Nat), tw_tree μ 6 0 k f nd → c < n → p + 100 * f ≤ 100000 → tw_E L xs (f + 1) 195 [.ref 88, .int (nI nd), .int (nI c), .int (nI p)] σ (fun v σ1 => v = some (.int (nI (tw_lvm μ n f nd c p))) ∧ σ = σ1) := by
  intro f
  induction f with
  | zero =>
    intro nd c p ht hc hp
    exact absurd ht (fun h => h)
  | succ f ih =>
    intro nd c p ht hc hp
    obtain ⟨hnd, ch, hch, e14, e99, hh⟩ := ht
    have m99 : μ 99 nd = nI ch := e99
    have e99 : σ 99 nd = nI ch := (hμ 99 nd (by omega) (by omega)).trans m99
    have eK : (μ 99 nd).toNatClampNeg = ch := by rw [m99]; exact tw_nclamp (by omega)
    rcases hh with hl | ⟨ho, ⟨q, hq, e15, e100, hq1⟩, ⟨a, e16, e101, hta⟩, hs⟩
    · rcases hl with rfl | rfl | rfl | rfl
      · skip
        show tw_P L xs _ 195 0 [.ref 88, .int (nI nd), .int (nI c), .int (nI p), tw_U, tw_U] [] σ _
        refine tw_sg 3 (i1 := 3) (ls1 := [.ref 88, .int (nI nd), .int (nI c), .int (nI p), tw_U, tw_U]) (st1 := [.int (nI nd), .ref 100]) (σ1 := σ) rfl ?_
        refine tw_al (k := 100) (j := nd) (len := 160) rfl rfl rfl rfl (rfl) (by omega) (by decide) ?_
        refine tw_sg 4 (i1 := 8) (ls1 := [.ref 88, .int (nI nd), .int (nI c), .int (nI p), .int (σ 100 nd), tw_U]) (st1 := [.int (nI nd), .ref 99]) (σ1 := σ) rfl ?_
        refine tw_al (k := 99) (j := nd) (len := 160) rfl rfl rfl rfl (rfl) (by omega) (by decide) ?_
        rw [e99]
        refine tw_swz (lo := 98) (j := 105) rfl (rfl) (by decide) (by decide) (by decide) rfl ?_
        show tw_P L xs _ 195 10 [.ref 88, .int (nI nd), .int (nI c), .int (nI p), .int (σ 100 nd), tw_U] [] σ _
        refine tw_sg 1 (i1 := 11) (ls1 := [.ref 88, .int (nI nd), .int (nI c), .int (nI p), .int (σ 100 nd), tw_U]) (st1 := [.int (nI 0)]) (σ1 := σ) rfl ?_
        refine tw_ri rfl (rfl) ?_
        exact ⟨by unfold tw_lvm; rw [tw_lv]; simp [eK]; try rfl, rfl⟩
      · skip
        show tw_P L xs _ 195 0 [.ref 88, .int (nI nd), .int (nI c), .int (nI p), tw_U, tw_U] [] σ _
        refine tw_sg 3 (i1 := 3) (ls1 := [.ref 88, .int (nI nd), .int (nI c), .int (nI p), tw_U, tw_U]) (st1 := [.int (nI nd), .ref 100]) (σ1 := σ) rfl ?_
        refine tw_al (k := 100) (j := nd) (len := 160) rfl rfl rfl rfl (rfl) (by omega) (by decide) ?_
        refine tw_sg 4 (i1 := 8) (ls1 := [.ref 88, .int (nI nd), .int (nI c), .int (nI p), .int (σ 100 nd), tw_U]) (st1 := [.int (nI nd), .ref 99]) (σ1 := σ) rfl ?_
        refine tw_al (k := 99) (j := nd) (len := 160) rfl rfl rfl rfl (rfl) (by omega) (by decide) ?_
        rw [e99]
        refine tw_swz (lo := 98) (j := 102) rfl (rfl) (by decide) (by decide) (by decide) rfl ?_
        show tw_P L xs _ 195 12 [.ref 88, .int (nI nd), .int (nI c), .int (nI p), .int (σ 100 nd), tw_U] [] σ _
        refine tw_sg 1 (i1 := 13) (ls1 := [.ref 88, .int (nI nd), .int (nI c), .int (nI p), .int (σ 100 nd), tw_U]) (st1 := [.int (nI 1)]) (σ1 := σ) rfl ?_
        refine tw_ri rfl (rfl) ?_
        exact ⟨by unfold tw_lvm; rw [tw_lv]; simp [eK]; try rfl, rfl⟩
      · skip
        show tw_P L xs _ 195 0 [.ref 88, .int (nI nd), .int (nI c), .int (nI p), tw_U, tw_U] [] σ _
        refine tw_sg 3 (i1 := 3) (ls1 := [.ref 88, .int (nI nd), .int (nI c), .int (nI p), tw_U, tw_U]) (st1 := [.int (nI nd), .ref 100]) (σ1 := σ) rfl ?_
        refine tw_al (k := 100) (j := nd) (len := 160) rfl rfl rfl rfl (rfl) (by omega) (by decide) ?_
        refine tw_sg 4 (i1 := 8) (ls1 := [.ref 88, .int (nI nd), .int (nI c), .int (nI p), .int (σ 100 nd), tw_U]) (st1 := [.int (nI nd), .ref 99]) (σ1 := σ) rfl ?_
        refine tw_al (k := 99) (j := nd) (len := 160) rfl rfl rfl rfl (rfl) (by omega) (by decide) ?_
        rw [e99]
        refine tw_swz (lo := 98) (j := 98) rfl (rfl) (by decide) (by decide) (by decide) rfl ?_
        show tw_P L xs _ 195 14 [.ref 88, .int (nI nd), .int (nI c), .int (nI p), .int (σ 100 nd), tw_U] [] σ _
        refine tw_sg 1 (i1 := 15) (ls1 := [.ref 88, .int (nI nd), .int (nI c), .int (nI p), .int (σ 100 nd), tw_U]) (st1 := [.int (nI 2)]) (σ1 := σ) rfl ?_
        refine tw_ri rfl (rfl) ?_
        exact ⟨by unfold tw_lvm; rw [tw_lv]; simp [eK]; try rfl, rfl⟩
      · skip
        show tw_P L xs _ 195 0 [.ref 88, .int (nI nd), .int (nI c), .int (nI p), tw_U, tw_U] [] σ _
        refine tw_sg 3 (i1 := 3) (ls1 := [.ref 88, .int (nI nd), .int (nI c), .int (nI p), tw_U, tw_U]) (st1 := [.int (nI nd), .ref 100]) (σ1 := σ) rfl ?_
        refine tw_al (k := 100) (j := nd) (len := 160) rfl rfl rfl rfl (rfl) (by omega) (by decide) ?_
        refine tw_sg 4 (i1 := 8) (ls1 := [.ref 88, .int (nI nd), .int (nI c), .int (nI p), .int (σ 100 nd), tw_U]) (st1 := [.int (nI nd), .ref 99]) (σ1 := σ) rfl ?_
        refine tw_al (k := 99) (j := nd) (len := 160) rfl rfl rfl rfl (rfl) (by omega) (by decide) ?_
        rw [e99]
        refine tw_swz (lo := 98) (j := 104) rfl (rfl) (by decide) (by decide) (by decide) rfl ?_
        show tw_P L xs _ 195 16 [.ref 88, .int (nI nd), .int (nI c), .int (nI p), .int (σ 100 nd), tw_U] [] σ _
        refine tw_sg 1 (i1 := 17) (ls1 := [.ref 88, .int (nI nd), .int (nI c), .int (nI p), .int (σ 100 nd), tw_U]) (st1 := [.int (nI 3)]) (σ1 := σ) rfl ?_
        refine tw_ri rfl (rfl) ?_
        exact ⟨by unfold tw_lvm; rw [tw_lv]; simp [eK]; try rfl, rfl⟩
    · have eN : (μ 100 nd).toNatClampNeg = q := by rw [show μ 100 nd = nI q from e100]; exact tw_nclamp (by omega)
      have m101 : μ 101 nd = nI a := e101
      have e100 : σ 100 nd = _ := (hμ 100 nd (by omega) (by omega)).trans e100
      have e101 : σ 101 nd = _ := (hμ 101 nd (by omega) (by omega)).trans e101
      have ha80 : a < 80 := by
        cases f with
        | zero => exact absurd hta (fun h => h)
        | succ f => exact Nat.lt_of_lt_of_le hta.1 hk
      have eA : (μ 101 nd).toNatClampNeg = a := by rw [m101]; exact tw_nclamp (by omega)
      unfold tw_oper tw_numd at ho
      rcases (show ch = 107 ∨ ch = 99 ∨ ch = 120 ∨ ch = 115 ∨ ch = 100 ∨ ch = 114 ∨ ch = 109 ∨ ch = 116 by omega) with rfl | rfl | rfl | rfl | rfl | rfl | rfl | rfl
      · skip
        obtain ⟨s, e17, e102, hts⟩ := hs (by unfold tw_pair; omega)
        have m102 : μ 102 nd = nI s := e102
        have e102 : σ 102 nd = nI s := (hμ 102 nd (by omega) (by omega)).trans e102
        have hs80 : s < 80 := by
          cases f with
          | zero => exact absurd hts (fun h => h)
          | succ f => exact Nat.lt_of_lt_of_le hts.1 hk
        have eS : (μ 102 nd).toNatClampNeg = s := by rw [m102]; exact tw_nclamp (by omega)
        have hq1 := hq1 (by omega)
        have hpq : p / q ≤ p := Nat.div_le_self p q
        by_cases hx : p / q % 2 = 0
        · skip
          show tw_P L xs _ 195 0 [.ref 88, .int (nI nd), .int (nI c), .int (nI p), tw_U, tw_U] [] σ _
          refine tw_sg 3 (i1 := 3) (ls1 := [.ref 88, .int (nI nd), .int (nI c), .int (nI p), tw_U, tw_U]) (st1 := [.int (nI nd), .ref 100]) (σ1 := σ) rfl ?_
          refine tw_al (k := 100) (j := nd) (len := 160) rfl rfl rfl rfl (rfl) (by omega) (by decide) ?_
          rw [e100]
          refine tw_sg 4 (i1 := 8) (ls1 := [.ref 88, .int (nI nd), .int (nI c), .int (nI p), .int (nI q), tw_U]) (st1 := [.int (nI nd), .ref 99]) (σ1 := σ) rfl ?_
          refine tw_al (k := 99) (j := nd) (len := 160) rfl rfl rfl rfl (rfl) (by omega) (by decide) ?_
          rw [e99]
          refine tw_swz (lo := 98) (j := 107) rfl (rfl) (by decide) (by decide) (by decide) rfl ?_
          show tw_P L xs _ 195 18 [.ref 88, .int (nI nd), .int (nI c), .int (nI p), .int (nI q), tw_U] [] σ _
          refine tw_sg 3 (i1 := 21) (ls1 := [.ref 88, .int (nI nd), .int (nI c), .int (nI p), .int (nI q), tw_U]) (st1 := [.int (nI q), .int (nI p), .ref 88]) (σ1 := σ) rfl ?_
          refine tw_dv rfl (by rw [show (0 : Int32) = nI 0 from rfl, tw_neq (by omega) (by omega)]; omega) ?_
          rw [tw_ndiv (a := p) (b := q) (by omega) (by omega)]
          refine tw_sg 1 (i1 := 23) (ls1 := [.ref 88, .int (nI nd), .int (nI c), .int (nI p), .int (nI q), tw_U]) (st1 := [.int (nI 2), .int (nI (p / q)), .ref 88]) (σ1 := σ) rfl ?_
          refine tw_rm rfl (by decide) ?_
          rw [tw_nrem (a := p / q) (b := 2) (by omega) (by omega)]
          refine tw_bzF (c := .ne) rfl (by rw [tw_cne', tw_neq (by omega) (by omega)] <;> omega) ?_
          show tw_P L xs _ 195 25 [.ref 88, .int (nI nd), .int (nI c), .int (nI p), .int (nI q), tw_U] [.ref 88] σ _
          refine tw_sg 3 (i1 := 28) (ls1 := [.ref 88, .int (nI nd), .int (nI c), .int (nI p), .int (nI q), tw_U]) (st1 := [.int (nI nd), .ref 101, .ref 88]) (σ1 := σ) rfl ?_
          refine tw_al (k := 101) (j := nd) (len := 160) rfl rfl rfl rfl (rfl) (by omega) (by decide) ?_
          rw [e101]
          refine tw_sg 3 (i1 := 36) (ls1 := [.ref 88, .int (nI nd), .int (nI c), .int (nI p), .int (nI q), tw_U]) (st1 := [.int (nI p), .int (nI c), .int (nI a), .ref 88]) (σ1 := σ) rfl ?_
          refine tw_cl1 rfl (rfl) (by omega) (ih a c p hta (by omega) (by omega)) ?_
          rintro _ _ ⟨rfl, rfl⟩
          show tw_P L xs _ 195 37 [.ref 88, .int (nI nd), .int (nI c), .int (nI p), .int (nI q), tw_U] [.int (nI (tw_lvm μ n f a c p))] σ _
          refine tw_ri rfl (rfl) ?_
          exact ⟨by unfold tw_lvm; rw [tw_lv]; simp [eK, eN, eA, eS, hx]; try rfl, rfl⟩
        · skip
          show tw_P L xs _ 195 0 [.ref 88, .int (nI nd), .int (nI c), .int (nI p), tw_U, tw_U] [] σ _
          refine tw_sg 3 (i1 := 3) (ls1 := [.ref 88, .int (nI nd), .int (nI c), .int (nI p), tw_U, tw_U]) (st1 := [.int (nI nd), .ref 100]) (σ1 := σ) rfl ?_
          refine tw_al (k := 100) (j := nd) (len := 160) rfl rfl rfl rfl (rfl) (by omega) (by decide) ?_
          rw [e100]
          refine tw_sg 4 (i1 := 8) (ls1 := [.ref 88, .int (nI nd), .int (nI c), .int (nI p), .int (nI q), tw_U]) (st1 := [.int (nI nd), .ref 99]) (σ1 := σ) rfl ?_
          refine tw_al (k := 99) (j := nd) (len := 160) rfl rfl rfl rfl (rfl) (by omega) (by decide) ?_
          rw [e99]
          refine tw_swz (lo := 98) (j := 107) rfl (rfl) (by decide) (by decide) (by decide) rfl ?_
          show tw_P L xs _ 195 18 [.ref 88, .int (nI nd), .int (nI c), .int (nI p), .int (nI q), tw_U] [] σ _
          refine tw_sg 3 (i1 := 21) (ls1 := [.ref 88, .int (nI nd), .int (nI c), .int (nI p), .int (nI q), tw_U]) (st1 := [.int (nI q), .int (nI p), .ref 88]) (σ1 := σ) rfl ?_
          refine tw_dv rfl (by rw [show (0 : Int32) = nI 0 from rfl, tw_neq (by omega) (by omega)]; omega) ?_
          rw [tw_ndiv (a := p) (b := q) (by omega) (by omega)]
          refine tw_sg 1 (i1 := 23) (ls1 := [.ref 88, .int (nI nd), .int (nI c), .int (nI p), .int (nI q), tw_U]) (st1 := [.int (nI 2), .int (nI (p / q)), .ref 88]) (σ1 := σ) rfl ?_
          refine tw_rm rfl (by decide) ?_
          rw [tw_nrem (a := p / q) (b := 2) (by omega) (by omega)]
          refine tw_bzT (c := .ne) rfl (by rw [tw_cne, tw_neq (by omega) (by omega)] <;> omega) ?_
          show tw_P L xs _ 195 30 [.ref 88, .int (nI nd), .int (nI c), .int (nI p), .int (nI q), tw_U] [.ref 88] σ _
          refine tw_sg 3 (i1 := 33) (ls1 := [.ref 88, .int (nI nd), .int (nI c), .int (nI p), .int (nI q), tw_U]) (st1 := [.int (nI nd), .ref 102, .ref 88]) (σ1 := σ) rfl ?_
          refine tw_al (k := 102) (j := nd) (len := 160) rfl rfl rfl rfl (rfl) (by omega) (by decide) ?_
          rw [e102]
          refine tw_sg 2 (i1 := 36) (ls1 := [.ref 88, .int (nI nd), .int (nI c), .int (nI p), .int (nI q), tw_U]) (st1 := [.int (nI p), .int (nI c), .int (nI s), .ref 88]) (σ1 := σ) rfl ?_
          refine tw_cl1 rfl (rfl) (by omega) (ih s c p hts (by omega) (by omega)) ?_
          rintro _ _ ⟨rfl, rfl⟩
          show tw_P L xs _ 195 37 [.ref 88, .int (nI nd), .int (nI c), .int (nI p), .int (nI q), tw_U] [.int (nI (tw_lvm μ n f s c p))] σ _
          refine tw_ri rfl (rfl) ?_
          exact ⟨by unfold tw_lvm; rw [tw_lv]; simp [eK, eN, eA, eS, hx]; try rfl, rfl⟩
      · skip
        obtain ⟨s, e17, e102, hts⟩ := hs (by unfold tw_pair; omega)
        have m102 : μ 102 nd = nI s := e102
        have e102 : σ 102 nd = nI s := (hμ 102 nd (by omega) (by omega)).trans e102
        have hs80 : s < 80 := by
          cases f with
          | zero => exact absurd hts (fun h => h)
          | succ f => exact Nat.lt_of_lt_of_le hts.1 hk
        have eS : (μ 102 nd).toNatClampNeg = s := by rw [m102]; exact tw_nclamp (by omega)
        by_cases hx : c < q
        · skip
          show tw_P L xs _ 195 0 [.ref 88, .int (nI nd), .int (nI c), .int (nI p), tw_U, tw_U] [] σ _
          refine tw_sg 3 (i1 := 3) (ls1 := [.ref 88, .int (nI nd), .int (nI c), .int (nI p), tw_U, tw_U]) (st1 := [.int (nI nd), .ref 100]) (σ1 := σ) rfl ?_
          refine tw_al (k := 100) (j := nd) (len := 160) rfl rfl rfl rfl (rfl) (by omega) (by decide) ?_
          rw [e100]
          refine tw_sg 4 (i1 := 8) (ls1 := [.ref 88, .int (nI nd), .int (nI c), .int (nI p), .int (nI q), tw_U]) (st1 := [.int (nI nd), .ref 99]) (σ1 := σ) rfl ?_
          refine tw_al (k := 99) (j := nd) (len := 160) rfl rfl rfl rfl (rfl) (by omega) (by decide) ?_
          rw [e99]
          refine tw_swz (lo := 98) (j := 99) rfl (rfl) (by decide) (by decide) (by decide) rfl ?_
          show tw_P L xs _ 195 38 [.ref 88, .int (nI nd), .int (nI c), .int (nI p), .int (nI q), tw_U] [] σ _
          refine tw_sg 3 (i1 := 41) (ls1 := [.ref 88, .int (nI nd), .int (nI c), .int (nI p), .int (nI q), tw_U]) (st1 := [.int (nI q), .int (nI c), .ref 88]) (σ1 := σ) rfl ?_
          refine tw_biF (c := .ge) rfl (by rw [tw_cge', tw_nle (by omega) (by omega)] <;> omega) ?_
          show tw_P L xs _ 195 42 [.ref 88, .int (nI nd), .int (nI c), .int (nI p), .int (nI q), tw_U] [.ref 88] σ _
          refine tw_sg 3 (i1 := 45) (ls1 := [.ref 88, .int (nI nd), .int (nI c), .int (nI p), .int (nI q), tw_U]) (st1 := [.int (nI nd), .ref 101, .ref 88]) (σ1 := σ) rfl ?_
          refine tw_al (k := 101) (j := nd) (len := 160) rfl rfl rfl rfl (rfl) (by omega) (by decide) ?_
          rw [e101]
          refine tw_sg 3 (i1 := 53) (ls1 := [.ref 88, .int (nI nd), .int (nI c), .int (nI p), .int (nI q), tw_U]) (st1 := [.int (nI p), .int (nI c), .int (nI a), .ref 88]) (σ1 := σ) rfl ?_
          refine tw_cl1 rfl (rfl) (by omega) (ih a c p hta (by omega) (by omega)) ?_
          rintro _ _ ⟨rfl, rfl⟩
          show tw_P L xs _ 195 54 [.ref 88, .int (nI nd), .int (nI c), .int (nI p), .int (nI q), tw_U] [.int (nI (tw_lvm μ n f a c p))] σ _
          refine tw_ri rfl (rfl) ?_
          exact ⟨by unfold tw_lvm; rw [tw_lv]; simp [eK, eN, eA, eS, hx]; try rfl, rfl⟩
        · skip
          show tw_P L xs _ 195 0 [.ref 88, .int (nI nd), .int (nI c), .int (nI p), tw_U, tw_U] [] σ _
          refine tw_sg 3 (i1 := 3) (ls1 := [.ref 88, .int (nI nd), .int (nI c), .int (nI p), tw_U, tw_U]) (st1 := [.int (nI nd), .ref 100]) (σ1 := σ) rfl ?_
          refine tw_al (k := 100) (j := nd) (len := 160) rfl rfl rfl rfl (rfl) (by omega) (by decide) ?_
          rw [e100]
          refine tw_sg 4 (i1 := 8) (ls1 := [.ref 88, .int (nI nd), .int (nI c), .int (nI p), .int (nI q), tw_U]) (st1 := [.int (nI nd), .ref 99]) (σ1 := σ) rfl ?_
          refine tw_al (k := 99) (j := nd) (len := 160) rfl rfl rfl rfl (rfl) (by omega) (by decide) ?_
          rw [e99]
          refine tw_swz (lo := 98) (j := 99) rfl (rfl) (by decide) (by decide) (by decide) rfl ?_
          show tw_P L xs _ 195 38 [.ref 88, .int (nI nd), .int (nI c), .int (nI p), .int (nI q), tw_U] [] σ _
          refine tw_sg 3 (i1 := 41) (ls1 := [.ref 88, .int (nI nd), .int (nI c), .int (nI p), .int (nI q), tw_U]) (st1 := [.int (nI q), .int (nI c), .ref 88]) (σ1 := σ) rfl ?_
          refine tw_biT (c := .ge) rfl (by rw [tw_cge, tw_nle (by omega) (by omega)] <;> omega) ?_
          show tw_P L xs _ 195 47 [.ref 88, .int (nI nd), .int (nI c), .int (nI p), .int (nI q), tw_U] [.ref 88] σ _
          refine tw_sg 3 (i1 := 50) (ls1 := [.ref 88, .int (nI nd), .int (nI c), .int (nI p), .int (nI q), tw_U]) (st1 := [.int (nI nd), .ref 102, .ref 88]) (σ1 := σ) rfl ?_
          refine tw_al (k := 102) (j := nd) (len := 160) rfl rfl rfl rfl (rfl) (by omega) (by decide) ?_
          rw [e102]
          refine tw_sg 2 (i1 := 53) (ls1 := [.ref 88, .int (nI nd), .int (nI c), .int (nI p), .int (nI q), tw_U]) (st1 := [.int (nI p), .int (nI c), .int (nI s), .ref 88]) (σ1 := σ) rfl ?_
          refine tw_cl1 rfl (rfl) (by omega) (ih s c p hts (by omega) (by omega)) ?_
          rintro _ _ ⟨rfl, rfl⟩
          show tw_P L xs _ 195 54 [.ref 88, .int (nI nd), .int (nI c), .int (nI p), .int (nI q), tw_U] [.int (nI (tw_lvm μ n f s c p))] σ _
          refine tw_ri rfl (rfl) ?_
          exact ⟨by unfold tw_lvm; rw [tw_lv]; simp [eK, eN, eA, eS, hx]; try rfl, rfl⟩
      · skip
        obtain ⟨s, e17, e102, hts⟩ := hs (by unfold tw_pair; omega)
        have m102 : μ 102 nd = nI s := e102
        have e102 : σ 102 nd = nI s := (hμ 102 nd (by omega) (by omega)).trans e102
        have hs80 : s < 80 := by
          cases f with
          | zero => exact absurd hts (fun h => h)
          | succ f => exact Nat.lt_of_lt_of_le hts.1 hk
        have eS : (μ 102 nd).toNatClampNeg = s := by rw [m102]; exact tw_nclamp (by omega)
        have hq1 := hq1 (by omega)
        have hpq : p % q < q := Nat.mod_lt _ hq1
        by_cases hx : p % q = 0
        · skip
          show tw_P L xs _ 195 0 [.ref 88, .int (nI nd), .int (nI c), .int (nI p), tw_U, tw_U] [] σ _
          refine tw_sg 3 (i1 := 3) (ls1 := [.ref 88, .int (nI nd), .int (nI c), .int (nI p), tw_U, tw_U]) (st1 := [.int (nI nd), .ref 100]) (σ1 := σ) rfl ?_
          refine tw_al (k := 100) (j := nd) (len := 160) rfl rfl rfl rfl (rfl) (by omega) (by decide) ?_
          rw [e100]
          refine tw_sg 4 (i1 := 8) (ls1 := [.ref 88, .int (nI nd), .int (nI c), .int (nI p), .int (nI q), tw_U]) (st1 := [.int (nI nd), .ref 99]) (σ1 := σ) rfl ?_
          refine tw_al (k := 99) (j := nd) (len := 160) rfl rfl rfl rfl (rfl) (by omega) (by decide) ?_
          rw [e99]
          refine tw_swz (lo := 98) (j := 120) rfl (rfl) (by decide) (by decide) (by decide) rfl ?_
          show tw_P L xs _ 195 55 [.ref 88, .int (nI nd), .int (nI c), .int (nI p), .int (nI q), tw_U] [] σ _
          refine tw_sg 3 (i1 := 58) (ls1 := [.ref 88, .int (nI nd), .int (nI c), .int (nI p), .int (nI q), tw_U]) (st1 := [.int (nI q), .int (nI p), .ref 88]) (σ1 := σ) rfl ?_
          refine tw_rm rfl (by rw [show (0 : Int32) = nI 0 from rfl, tw_neq (by omega) (by omega)]; omega) ?_
          rw [tw_nrem (a := p) (b := q) (by omega) (by omega)]
          refine tw_bzF (c := .ne) rfl (by rw [tw_cne', tw_neq (by omega) (by omega)] <;> omega) ?_
          show tw_P L xs _ 195 60 [.ref 88, .int (nI nd), .int (nI c), .int (nI p), .int (nI q), tw_U] [.ref 88] σ _
          refine tw_sg 3 (i1 := 63) (ls1 := [.ref 88, .int (nI nd), .int (nI c), .int (nI p), .int (nI q), tw_U]) (st1 := [.int (nI nd), .ref 102, .ref 88]) (σ1 := σ) rfl ?_
          refine tw_al (k := 102) (j := nd) (len := 160) rfl rfl rfl rfl (rfl) (by omega) (by decide) ?_
          rw [e102]
          refine tw_sg 3 (i1 := 71) (ls1 := [.ref 88, .int (nI nd), .int (nI c), .int (nI p), .int (nI q), tw_U]) (st1 := [.int (nI p), .int (nI c), .int (nI s), .ref 88]) (σ1 := σ) rfl ?_
          refine tw_cl1 rfl (rfl) (by omega) (ih s c p hts (by omega) (by omega)) ?_
          rintro _ _ ⟨rfl, rfl⟩
          show tw_P L xs _ 195 72 [.ref 88, .int (nI nd), .int (nI c), .int (nI p), .int (nI q), tw_U] [.int (nI (tw_lvm μ n f s c p))] σ _
          refine tw_ri rfl (rfl) ?_
          exact ⟨by unfold tw_lvm; rw [tw_lv]; simp [eK, eN, eA, eS, hx]; try rfl, rfl⟩
        · skip
          show tw_P L xs _ 195 0 [.ref 88, .int (nI nd), .int (nI c), .int (nI p), tw_U, tw_U] [] σ _
          refine tw_sg 3 (i1 := 3) (ls1 := [.ref 88, .int (nI nd), .int (nI c), .int (nI p), tw_U, tw_U]) (st1 := [.int (nI nd), .ref 100]) (σ1 := σ) rfl ?_
          refine tw_al (k := 100) (j := nd) (len := 160) rfl rfl rfl rfl (rfl) (by omega) (by decide) ?_
          rw [e100]
          refine tw_sg 4 (i1 := 8) (ls1 := [.ref 88, .int (nI nd), .int (nI c), .int (nI p), .int (nI q), tw_U]) (st1 := [.int (nI nd), .ref 99]) (σ1 := σ) rfl ?_
          refine tw_al (k := 99) (j := nd) (len := 160) rfl rfl rfl rfl (rfl) (by omega) (by decide) ?_
          rw [e99]
          refine tw_swz (lo := 98) (j := 120) rfl (rfl) (by decide) (by decide) (by decide) rfl ?_
          show tw_P L xs _ 195 55 [.ref 88, .int (nI nd), .int (nI c), .int (nI p), .int (nI q), tw_U] [] σ _
          refine tw_sg 3 (i1 := 58) (ls1 := [.ref 88, .int (nI nd), .int (nI c), .int (nI p), .int (nI q), tw_U]) (st1 := [.int (nI q), .int (nI p), .ref 88]) (σ1 := σ) rfl ?_
          refine tw_rm rfl (by rw [show (0 : Int32) = nI 0 from rfl, tw_neq (by omega) (by omega)]; omega) ?_
          rw [tw_nrem (a := p) (b := q) (by omega) (by omega)]
          refine tw_bzT (c := .ne) rfl (by rw [tw_cne, tw_neq (by omega) (by omega)] <;> omega) ?_
          show tw_P L xs _ 195 65 [.ref 88, .int (nI nd), .int (nI c), .int (nI p), .int (nI q), tw_U] [.ref 88] σ _
          refine tw_sg 3 (i1 := 68) (ls1 := [.ref 88, .int (nI nd), .int (nI c), .int (nI p), .int (nI q), tw_U]) (st1 := [.int (nI nd), .ref 101, .ref 88]) (σ1 := σ) rfl ?_
          refine tw_al (k := 101) (j := nd) (len := 160) rfl rfl rfl rfl (rfl) (by omega) (by decide) ?_
          rw [e101]
          refine tw_sg 2 (i1 := 71) (ls1 := [.ref 88, .int (nI nd), .int (nI c), .int (nI p), .int (nI q), tw_U]) (st1 := [.int (nI p), .int (nI c), .int (nI a), .ref 88]) (σ1 := σ) rfl ?_
          refine tw_cl1 rfl (rfl) (by omega) (ih a c p hta (by omega) (by omega)) ?_
          rintro _ _ ⟨rfl, rfl⟩
          show tw_P L xs _ 195 72 [.ref 88, .int (nI nd), .int (nI c), .int (nI p), .int (nI q), tw_U] [.int (nI (tw_lvm μ n f a c p))] σ _
          refine tw_ri rfl (rfl) ?_
          exact ⟨by unfold tw_lvm; rw [tw_lv]; simp [eK, eN, eA, eS, hx]; try rfl, rfl⟩
      · skip
        show tw_P L xs _ 195 0 [.ref 88, .int (nI nd), .int (nI c), .int (nI p), tw_U, tw_U] [] σ _
        refine tw_sg 3 (i1 := 3) (ls1 := [.ref 88, .int (nI nd), .int (nI c), .int (nI p), tw_U, tw_U]) (st1 := [.int (nI nd), .ref 100]) (σ1 := σ) rfl ?_
        refine tw_al (k := 100) (j := nd) (len := 160) rfl rfl rfl rfl (rfl) (by omega) (by decide) ?_
        rw [e100]
        refine tw_sg 4 (i1 := 8) (ls1 := [.ref 88, .int (nI nd), .int (nI c), .int (nI p), .int (nI q), tw_U]) (st1 := [.int (nI nd), .ref 99]) (σ1 := σ) rfl ?_
        refine tw_al (k := 99) (j := nd) (len := 160) rfl rfl rfl rfl (rfl) (by omega) (by decide) ?_
        rw [e99]
        refine tw_swz (lo := 98) (j := 115) rfl (rfl) (by decide) (by decide) (by decide) rfl ?_
        show tw_P L xs _ 195 73 [.ref 88, .int (nI nd), .int (nI c), .int (nI p), .int (nI q), tw_U] [] σ _
        refine tw_sg 4 (i1 := 77) (ls1 := [.ref 88, .int (nI nd), .int (nI c), .int (nI p), .int (nI q), tw_U]) (st1 := [.int (nI nd), .ref 101, .ref 88]) (σ1 := σ) rfl ?_
        refine tw_al (k := 101) (j := nd) (len := 160) rfl rfl rfl rfl (rfl) (by omega) (by decide) ?_
        rw [e101]
        refine tw_sgn 4 (i1 := 82) (ls0 := [.ref 88, .int (nI nd), .int (nI c), .int (nI p), .int (nI q), tw_U]) (st0 := [.int (nI p + nI q), .int (nI c), .int (nI a), .ref 88]) (σ0 := σ) (ls1 := [.ref 88, .int (nI nd), .int (nI c), .int (nI p), .int (nI q), tw_U]) (st1 := [.int (nI (p + q)), .int (nI c), .int (nI a), .ref 88]) (σ1 := σ) rfl (rfl) (by simp only [tw_nadd, tw_nmul]) (rfl) ?_
        refine tw_cl1 rfl (rfl) (by omega) (ih a c (p + q) hta (by omega) (by omega)) ?_
        rintro _ _ ⟨rfl, rfl⟩
        show tw_P L xs _ 195 83 [.ref 88, .int (nI nd), .int (nI c), .int (nI p), .int (nI q), tw_U] [.int (nI (tw_lvm μ n f a c (p + q)))] σ _
        refine tw_ri rfl (rfl) ?_
        exact ⟨by unfold tw_lvm; rw [tw_lv]; simp [eK, eN, eA]; try rfl, rfl⟩
      · skip
        show tw_P L xs _ 195 0 [.ref 88, .int (nI nd), .int (nI c), .int (nI p), tw_U, tw_U] [] σ _
        refine tw_sg 3 (i1 := 3) (ls1 := [.ref 88, .int (nI nd), .int (nI c), .int (nI p), tw_U, tw_U]) (st1 := [.int (nI nd), .ref 100]) (σ1 := σ) rfl ?_
        refine tw_al (k := 100) (j := nd) (len := 160) rfl rfl rfl rfl (rfl) (by omega) (by decide) ?_
        rw [e100]
        refine tw_sg 4 (i1 := 8) (ls1 := [.ref 88, .int (nI nd), .int (nI c), .int (nI p), .int (nI q), tw_U]) (st1 := [.int (nI nd), .ref 99]) (σ1 := σ) rfl ?_
        refine tw_al (k := 99) (j := nd) (len := 160) rfl rfl rfl rfl (rfl) (by omega) (by decide) ?_
        rw [e99]
        refine tw_swz (lo := 98) (j := 100) rfl (rfl) (by decide) (by decide) (by decide) rfl ?_
        show tw_P L xs _ 195 84 [.ref 88, .int (nI nd), .int (nI c), .int (nI p), .int (nI q), tw_U] [] σ _
        refine tw_sg 4 (i1 := 88) (ls1 := [.ref 88, .int (nI nd), .int (nI c), .int (nI p), .int (nI q), tw_U]) (st1 := [.int (nI nd), .ref 101, .ref 88]) (σ1 := σ) rfl ?_
        refine tw_al (k := 101) (j := nd) (len := 160) rfl rfl rfl rfl (rfl) (by omega) (by decide) ?_
        rw [e101]
        refine tw_sgn 4 (i1 := 93) (ls0 := [.ref 88, .int (nI nd), .int (nI c), .int (nI p), .int (nI q), tw_U]) (st0 := [.int (nI p + nI c), .int (nI c), .int (nI a), .ref 88]) (σ0 := σ) (ls1 := [.ref 88, .int (nI nd), .int (nI c), .int (nI p), .int (nI q), tw_U]) (st1 := [.int (nI (p + c)), .int (nI c), .int (nI a), .ref 88]) (σ1 := σ) rfl (rfl) (by simp only [tw_nadd, tw_nmul]) (rfl) ?_
        refine tw_cl1 rfl (rfl) (by omega) (ih a c (p + c) hta (by omega) (by omega)) ?_
        rintro _ _ ⟨rfl, rfl⟩
        show tw_P L xs _ 195 94 [.ref 88, .int (nI nd), .int (nI c), .int (nI p), .int (nI q), tw_U] [.int (nI (tw_lvm μ n f a c (p + c)))] σ _
        refine tw_ri rfl (rfl) ?_
        exact ⟨by unfold tw_lvm; rw [tw_lv]; simp [eK, eN, eA]; try rfl, rfl⟩
      · skip
        have hb := @tw_lvm_le μ n f a c p
        have eR : tw_lvm μ n (f + 1) nd c p = tw_rvT (tw_lvm μ n f a c p) := by unfold tw_lvm; rw [tw_lv]; simp [eK, eN, eA]
        show tw_P L xs _ 195 0 [.ref 88, .int (nI nd), .int (nI c), .int (nI p), tw_U, tw_U] [] σ _
        refine tw_sg 3 (i1 := 3) (ls1 := [.ref 88, .int (nI nd), .int (nI c), .int (nI p), tw_U, tw_U]) (st1 := [.int (nI nd), .ref 100]) (σ1 := σ) rfl ?_
        refine tw_al (k := 100) (j := nd) (len := 160) rfl rfl rfl rfl (rfl) (by omega) (by decide) ?_
        rw [e100]
        refine tw_sg 4 (i1 := 8) (ls1 := [.ref 88, .int (nI nd), .int (nI c), .int (nI p), .int (nI q), tw_U]) (st1 := [.int (nI nd), .ref 99]) (σ1 := σ) rfl ?_
        refine tw_al (k := 99) (j := nd) (len := 160) rfl rfl rfl rfl (rfl) (by omega) (by decide) ?_
        rw [e99]
        refine tw_swz (lo := 98) (j := 114) rfl (rfl) (by decide) (by decide) (by decide) rfl ?_
        show tw_P L xs _ 195 111 [.ref 88, .int (nI nd), .int (nI c), .int (nI p), .int (nI q), tw_U] [] σ _
        refine tw_sg 4 (i1 := 115) (ls1 := [.ref 88, .int (nI nd), .int (nI c), .int (nI p), .int (nI q), tw_U]) (st1 := [.int (nI nd), .ref 101, .ref 88]) (σ1 := σ) rfl ?_
        refine tw_al (k := 101) (j := nd) (len := 160) rfl rfl rfl rfl (rfl) (by omega) (by decide) ?_
        rw [e101]
        refine tw_sg 2 (i1 := 118) (ls1 := [.ref 88, .int (nI nd), .int (nI c), .int (nI p), .int (nI q), tw_U]) (st1 := [.int (nI p), .int (nI c), .int (nI a), .ref 88]) (σ1 := σ) rfl ?_
        refine tw_cl1 rfl (rfl) (by omega) (ih a c p hta (by omega) (by omega)) ?_
        rintro _ _ ⟨rfl, rfl⟩
        show tw_P L xs _ 195 119 [.ref 88, .int (nI nd), .int (nI c), .int (nI p), .int (nI q), tw_U] [.int (nI (tw_lvm μ n f a c p))] σ _
        refine tw_sg 3 (i1 := 122) (ls1 := [.ref 88, .int (nI nd), .int (nI c), .int (nI p), .int (nI q), .int (nI (tw_lvm μ n f a c p))]) (st1 := [.int (nI 1), .int (nI (tw_lvm μ n f a c p))]) (σ1 := σ) rfl ?_
        refine tw_bi (c := .ne) rfl (fun h1 => ?_) (fun h1 => ?_)
        · rw [tw_cne] at h1; have h1n := h1; rw [tw_neq (by omega) (by omega)] at h1n
          refine tw_sg 2 (i1 := 127) (ls1 := [.ref 88, .int (nI nd), .int (nI c), .int (nI p), .int (nI q), .int (nI (tw_lvm μ n f a c p))]) (st1 := [.int (nI 2), .int (nI (tw_lvm μ n f a c p))]) (σ1 := σ) rfl ?_
          refine tw_bi (c := .ne) rfl (fun h2 => ?_) (fun h2 => ?_)
          · rw [tw_cne] at h2; have h2n := h2; rw [tw_neq (by omega) (by omega)] at h2n
            refine tw_sg 1 (i1 := 131) (ls1 := [.ref 88, .int (nI nd), .int (nI c), .int (nI p), .int (nI q), .int (nI (tw_lvm μ n f a c p))]) (st1 := [.int (nI (tw_lvm μ n f a c p))]) (σ1 := σ) rfl ?_
            refine tw_ri rfl (rfl) ?_
            exact ⟨by rw [eR]; unfold tw_rvT; first | rw [if_pos (by assumption)] | (rw [if_neg (by assumption)]; first | rw [if_pos (by assumption)] | rw [if_neg (by assumption)]), rfl⟩
          · rw [tw_cne'] at h2; have h2n := h2; rw [tw_neq (by omega) (by omega)] at h2n
            refine tw_sg 2 (i1 := 131) (ls1 := [.ref 88, .int (nI nd), .int (nI c), .int (nI p), .int (nI q), .int (nI (tw_lvm μ n f a c p))]) (st1 := [.int (nI 1)]) (σ1 := σ) rfl ?_
            refine tw_ri rfl (rfl) ?_
            exact ⟨by rw [eR]; unfold tw_rvT; first | rw [if_pos (by assumption)] | (rw [if_neg (by assumption)]; first | rw [if_pos (by assumption)] | rw [if_neg (by assumption)]), rfl⟩
        · rw [tw_cne'] at h1; have h1n := h1; rw [tw_neq (by omega) (by omega)] at h1n
          refine tw_sg 2 (i1 := 131) (ls1 := [.ref 88, .int (nI nd), .int (nI c), .int (nI p), .int (nI q), .int (nI (tw_lvm μ n f a c p))]) (st1 := [.int (nI 2)]) (σ1 := σ) rfl ?_
          refine tw_ri rfl (rfl) ?_
          exact ⟨by rw [eR]; unfold tw_rvT; first | rw [if_pos (by assumption)] | (rw [if_neg (by assumption)]; first | rw [if_pos (by assumption)] | rw [if_neg (by assumption)]), rfl⟩
      · skip
        show tw_P L xs _ 195 0 [.ref 88, .int (nI nd), .int (nI c), .int (nI p), tw_U, tw_U] [] σ _
        refine tw_sg 3 (i1 := 3) (ls1 := [.ref 88, .int (nI nd), .int (nI c), .int (nI p), tw_U, tw_U]) (st1 := [.int (nI nd), .ref 100]) (σ1 := σ) rfl ?_
        refine tw_al (k := 100) (j := nd) (len := 160) rfl rfl rfl rfl (rfl) (by omega) (by decide) ?_
        rw [e100]
        refine tw_sg 4 (i1 := 8) (ls1 := [.ref 88, .int (nI nd), .int (nI c), .int (nI p), .int (nI q), tw_U]) (st1 := [.int (nI nd), .ref 99]) (σ1 := σ) rfl ?_
        refine tw_al (k := 99) (j := nd) (len := 160) rfl rfl rfl rfl (rfl) (by omega) (by decide) ?_
        rw [e99]
        refine tw_swz (lo := 98) (j := 109) rfl (rfl) (by decide) (by decide) (by decide) rfl ?_
        show tw_P L xs _ 195 95 [.ref 88, .int (nI nd), .int (nI c), .int (nI p), .int (nI q), tw_U] [] σ _
        refine tw_sg 4 (i1 := 99) (ls1 := [.ref 88, .int (nI nd), .int (nI c), .int (nI p), .int (nI q), tw_U]) (st1 := [.int (nI nd), .ref 101, .ref 88]) (σ1 := σ) rfl ?_
        refine tw_al (k := 101) (j := nd) (len := 160) rfl rfl rfl rfl (rfl) (by omega) (by decide) ?_
        rw [e101]
        refine tw_sg 3 (i1 := 103) (ls1 := [.ref 88, .int (nI nd), .int (nI c), .int (nI p), .int (nI q), tw_U]) (st1 := [.int (nI 0), .ref 89, .int (nI a), .ref 88]) (σ1 := σ) rfl ?_
        refine tw_al (k := 89) (j := 0) (len := 2) rfl rfl rfl rfl (rfl) (by omega) (by decide) ?_
        rw [hn89]
        refine tw_sgn 5 (i1 := 109) (ls0 := [.ref 88, .int (nI nd), .int (nI c), .int (nI p), .int (nI q), tw_U]) (st0 := [.int (nI p), .int ((nI n - nI 1) - nI c), .int (nI a), .ref 88]) (σ0 := σ) (ls1 := [.ref 88, .int (nI nd), .int (nI c), .int (nI p), .int (nI q), tw_U]) (st1 := [.int (nI p), .int (nI (n - 1 - c)), .int (nI a), .ref 88]) (σ1 := σ) rfl (rfl) (by simp only [tw_nsub (show 1 ≤ n by omega), tw_nsub (show c ≤ n - 1 by omega), tw_nadd, tw_nmul]) (rfl) ?_
        refine tw_cl1 rfl (rfl) (by omega) (ih a (n - 1 - c) p hta (by omega) (by omega)) ?_
        rintro _ _ ⟨rfl, rfl⟩
        show tw_P L xs _ 195 110 [.ref 88, .int (nI nd), .int (nI c), .int (nI p), .int (nI q), tw_U] [.int (nI (tw_lvm μ n f a (n - 1 - c) p))] σ _
        refine tw_ri rfl (rfl) ?_
        exact ⟨by unfold tw_lvm; rw [tw_lv]; simp [eK, eN, eA]; try rfl, rfl⟩
      · skip
        obtain ⟨s, e17, e102, hts⟩ := hs (by unfold tw_pair; omega)
        have m102 : μ 102 nd = nI s := e102
        have e102 : σ 102 nd = nI s := (hμ 102 nd (by omega) (by omega)).trans e102
        have hs80 : s < 80 := by
          cases f with
          | zero => exact absurd hts (fun h => h)
          | succ f => exact Nat.lt_of_lt_of_le hts.1 hk
        have eS : (μ 102 nd).toNatClampNeg = s := by rw [m102]; exact tw_nclamp (by omega)
        have hb := @tw_lvm_le μ n f a c p
        by_cases hx : tw_lvm μ n f a c p = 0
        · skip
          show tw_P L xs _ 195 0 [.ref 88, .int (nI nd), .int (nI c), .int (nI p), tw_U, tw_U] [] σ _
          refine tw_sg 3 (i1 := 3) (ls1 := [.ref 88, .int (nI nd), .int (nI c), .int (nI p), tw_U, tw_U]) (st1 := [.int (nI nd), .ref 100]) (σ1 := σ) rfl ?_
          refine tw_al (k := 100) (j := nd) (len := 160) rfl rfl rfl rfl (rfl) (by omega) (by decide) ?_
          rw [e100]
          refine tw_sg 4 (i1 := 8) (ls1 := [.ref 88, .int (nI nd), .int (nI c), .int (nI p), .int (nI q), tw_U]) (st1 := [.int (nI nd), .ref 99]) (σ1 := σ) rfl ?_
          refine tw_al (k := 99) (j := nd) (len := 160) rfl rfl rfl rfl (rfl) (by omega) (by decide) ?_
          rw [e99]
          refine tw_swz (lo := 98) (j := 116) rfl (rfl) (by decide) (by decide) (by decide) rfl ?_
          show tw_P L xs _ 195 132 [.ref 88, .int (nI nd), .int (nI c), .int (nI p), .int (nI q), tw_U] [] σ _
          refine tw_sg 4 (i1 := 136) (ls1 := [.ref 88, .int (nI nd), .int (nI c), .int (nI p), .int (nI q), tw_U]) (st1 := [.int (nI nd), .ref 101, .ref 88]) (σ1 := σ) rfl ?_
          refine tw_al (k := 101) (j := nd) (len := 160) rfl rfl rfl rfl (rfl) (by omega) (by decide) ?_
          rw [e101]
          refine tw_sg 2 (i1 := 139) (ls1 := [.ref 88, .int (nI nd), .int (nI c), .int (nI p), .int (nI q), tw_U]) (st1 := [.int (nI p), .int (nI c), .int (nI a), .ref 88]) (σ1 := σ) rfl ?_
          refine tw_cl1 rfl (rfl) (by omega) (ih a c p hta (by omega) (by omega)) ?_
          rintro _ _ ⟨rfl, rfl⟩
          show tw_P L xs _ 195 140 [.ref 88, .int (nI nd), .int (nI c), .int (nI p), .int (nI q), tw_U] [.int (nI (tw_lvm μ n f a c p))] σ _
          refine tw_sg 2 (i1 := 142) (ls1 := [.ref 88, .int (nI nd), .int (nI c), .int (nI p), .int (nI q), .int (nI (tw_lvm μ n f a c p))]) (st1 := [.int (nI (tw_lvm μ n f a c p))]) (σ1 := σ) rfl ?_
          refine tw_bzT (c := .eq) rfl (by rw [tw_ceq] <;> (rw [tw_neq (by omega) (by omega)]; exact hx)) ?_
          show tw_P L xs _ 195 145 [.ref 88, .int (nI nd), .int (nI c), .int (nI p), .int (nI q), .int (nI (tw_lvm μ n f a c p))] [] σ _
          refine tw_sg 4 (i1 := 149) (ls1 := [.ref 88, .int (nI nd), .int (nI c), .int (nI p), .int (nI q), .int (nI (tw_lvm μ n f a c p))]) (st1 := [.int (nI nd), .ref 102, .ref 88]) (σ1 := σ) rfl ?_
          refine tw_al (k := 102) (j := nd) (len := 160) rfl rfl rfl rfl (rfl) (by omega) (by decide) ?_
          rw [e102]
          refine tw_sg 2 (i1 := 152) (ls1 := [.ref 88, .int (nI nd), .int (nI c), .int (nI p), .int (nI q), .int (nI (tw_lvm μ n f a c p))]) (st1 := [.int (nI p), .int (nI c), .int (nI s), .ref 88]) (σ1 := σ) rfl ?_
          refine tw_cl1 rfl (rfl) (by omega) (ih s c p hts (by omega) (by omega)) ?_
          rintro _ _ ⟨rfl, rfl⟩
          show tw_P L xs _ 195 153 [.ref 88, .int (nI nd), .int (nI c), .int (nI p), .int (nI q), .int (nI (tw_lvm μ n f a c p))] [.int (nI (tw_lvm μ n f s c p))] σ _
          refine tw_ri rfl (rfl) ?_
          exact ⟨by unfold tw_lvm at hx ⊢; rw [tw_lv]; simp [eK, eN, eA, eS, hx], rfl⟩
        · skip
          show tw_P L xs _ 195 0 [.ref 88, .int (nI nd), .int (nI c), .int (nI p), tw_U, tw_U] [] σ _
          refine tw_sg 3 (i1 := 3) (ls1 := [.ref 88, .int (nI nd), .int (nI c), .int (nI p), tw_U, tw_U]) (st1 := [.int (nI nd), .ref 100]) (σ1 := σ) rfl ?_
          refine tw_al (k := 100) (j := nd) (len := 160) rfl rfl rfl rfl (rfl) (by omega) (by decide) ?_
          rw [e100]
          refine tw_sg 4 (i1 := 8) (ls1 := [.ref 88, .int (nI nd), .int (nI c), .int (nI p), .int (nI q), tw_U]) (st1 := [.int (nI nd), .ref 99]) (σ1 := σ) rfl ?_
          refine tw_al (k := 99) (j := nd) (len := 160) rfl rfl rfl rfl (rfl) (by omega) (by decide) ?_
          rw [e99]
          refine tw_swz (lo := 98) (j := 116) rfl (rfl) (by decide) (by decide) (by decide) rfl ?_
          show tw_P L xs _ 195 132 [.ref 88, .int (nI nd), .int (nI c), .int (nI p), .int (nI q), tw_U] [] σ _
          refine tw_sg 4 (i1 := 136) (ls1 := [.ref 88, .int (nI nd), .int (nI c), .int (nI p), .int (nI q), tw_U]) (st1 := [.int (nI nd), .ref 101, .ref 88]) (σ1 := σ) rfl ?_
          refine tw_al (k := 101) (j := nd) (len := 160) rfl rfl rfl rfl (rfl) (by omega) (by decide) ?_
          rw [e101]
          refine tw_sg 2 (i1 := 139) (ls1 := [.ref 88, .int (nI nd), .int (nI c), .int (nI p), .int (nI q), tw_U]) (st1 := [.int (nI p), .int (nI c), .int (nI a), .ref 88]) (σ1 := σ) rfl ?_
          refine tw_cl1 rfl (rfl) (by omega) (ih a c p hta (by omega) (by omega)) ?_
          rintro _ _ ⟨rfl, rfl⟩
          show tw_P L xs _ 195 140 [.ref 88, .int (nI nd), .int (nI c), .int (nI p), .int (nI q), tw_U] [.int (nI (tw_lvm μ n f a c p))] σ _
          refine tw_sg 2 (i1 := 142) (ls1 := [.ref 88, .int (nI nd), .int (nI c), .int (nI p), .int (nI q), .int (nI (tw_lvm μ n f a c p))]) (st1 := [.int (nI (tw_lvm μ n f a c p))]) (σ1 := σ) rfl ?_
          refine tw_bzF (c := .eq) rfl (by rw [tw_ceq'] <;> (rw [tw_neq (by omega) (by omega)]; exact hx)) ?_
          show tw_P L xs _ 195 143 [.ref 88, .int (nI nd), .int (nI c), .int (nI p), .int (nI q), .int (nI (tw_lvm μ n f a c p))] [] σ _
          refine tw_sg 2 (i1 := 153) (ls1 := [.ref 88, .int (nI nd), .int (nI c), .int (nI p), .int (nI q), .int (nI (tw_lvm μ n f a c p))]) (st1 := [.int (nI (tw_lvm μ n f a c p))]) (σ1 := σ) rfl ?_
          refine tw_ri rfl (rfl) ?_
          exact ⟨by unfold tw_lvm at hx ⊢; rw [tw_lv]; simp [eK, eN, eA, eS, hx], rfl⟩
end tw_s36
