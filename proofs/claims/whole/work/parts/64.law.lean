/-! a law read by the class -/
section tw_s64
variable {L : Nat} {xs : Nat → Int32} {σ : tw_Mem} {x y w : Int32} {n r i c k h q a b e : Nat}
/-- what reading a law leaves alone, the class -/
def tw_rF (σ τ : tw_Mem) : Prop := (∀ k j, ¬ (k = 70 ∧ (j = 2 ∨ j = 3)) → ¬ (k = 71 ∧ (j = 4 ∨ j = 5)) → ¬ (72 ≤ k ∧ k ≤ 75) → τ k j = σ k j) ∧ (tw_iChars σ 72 → tw_iChars τ 72)
theorem tw_rF.rf : tw_rF σ σ := ⟨fun _ _ _ _ _ => rfl, fun h => h⟩
theorem tw_rF.tr {σ τ υ : tw_Mem} (h : tw_rF σ τ) (g : tw_rF τ υ) : tw_rF σ υ := ⟨fun k j a b c => (g.1 k j a b c).trans (h.1 k j a b c), fun a => g.2 (h.2 a)⟩
theorem tw_rF.upd {σ τ : tw_Mem} {k0 j0 : Nat} {z : Int32} (h : tw_rF σ τ) (g : (k0 = 70 ∧ (j0 = 2 ∨ j0 = 3)) ∨ (k0 = 71 ∧ (j0 = 4 ∨ j0 = 5)) ∨ (73 ≤ k0 ∧ k0 ≤ 75)) : tw_rF σ (tw_upd τ k0 j0 z) :=
  ⟨fun k j a b c => (tw_upd_off (by omega)).trans (h.1 k j a b c), fun a j hj => by rw [tw_upd_off (by omega)]; exact h.2 a j hj⟩
theorem tw_rF.updc {σ τ : tw_Mem} {j0 q : Nat} (h : tw_rF σ τ) (hq : q < 128) : tw_rF σ (tw_upd τ 72 j0 (nI q)) :=
  ⟨fun k j a b c => (tw_upd_off (by omega)).trans (h.1 k j a b c), fun a j hj => by
    by_cases z : j = j0
    · rw [z, tw_upd_at]; exact ⟨q, by omega, rfl⟩
    · rw [tw_upd_off (by omega)]; exact h.2 a j hj⟩
def tw_lo (B nd : Nat) (σ τ : tw_Mem) : Prop := ∀ i, i < 4 → ∀ j, j < nd → τ (B + i) j = σ (B + i) j
theorem tw_lo.tr {B nd nd2 : Nat} {σ τ υ : tw_Mem} (h : tw_lo B nd σ τ) (g : tw_lo B nd2 τ υ) (hn : nd ≤ nd2) : tw_lo B nd σ υ := fun i hi j hj => (g i hi j (by omega)).trans (h i hi j hj)
theorem tw_lo.rf {B nd : Nat} : tw_lo B nd σ σ := fun _ _ _ _ => rfl
theorem tw_lo.upd {B nd k0 j0 : Nat} {z : Int32} {σ τ : tw_Mem} (h : tw_lo B nd σ τ) (g : ¬ (B ≤ k0 ∧ k0 < B + 4 ∧ j0 < nd)) : tw_lo B nd σ (tw_upd τ k0 j0 z) := fun i hi j hj => (tw_upd_off (by omega)).trans (h i hi j hj)
/-- the nodes K lie there -/
def tw_hk (B : Nat) (K : Nat → Nat → Nat) (a b : Nat) (σ : tw_Mem) : Prop := ∀ j, a ≤ j → j < b → σ B j = nI (K 0 j) ∧ (tw_oper (K 0 j) → σ (B + 1) j = nI (K 1 j) ∧ σ (B + 2) j = nI (K 2 j) ∧ (tw_pair (K 0 j) → σ (B + 3) j = nI (K 3 j)))
theorem tw_hk.lo {B a b nd : Nat} {K : Nat → Nat → Nat} {σ τ : tw_Mem} (h : tw_hk B K a b σ) (g : tw_lo B nd σ τ) (hb : b ≤ nd) : tw_hk B K a b τ := fun j h1 h2 => by
  have e0 : τ B j = σ B j := g 0 (by omega) j (by omega)
  rw [e0, g 1 (by omega) j (by omega), g 2 (by omega) j (by omega), g 3 (by omega) j (by omega)]
  exact h j h1 h2
theorem tw_hk.upd {B a b k0 j0 : Nat} {z : Int32} {K : Nat → Nat → Nat} {σ : tw_Mem} (h : tw_hk B K a b σ) (g : ¬ (B ≤ k0 ∧ k0 < B + 4 ∧ a ≤ j0 ∧ j0 < b)) : tw_hk B K a b (tw_upd σ k0 j0 z) := fun j h1 h2 => by
  rw [tw_upd_off (by omega), tw_upd_off (by omega), tw_upd_off (by omega), tw_upd_off (by omega)]
  exact h j h1 h2
/-- a node ahead of two lots of others -/
def tw_kn (c q a b nd m : Nat) (K1 K2 : Nat → Nat → Nat) : Nat → Nat → Nat := fun i j => if j = nd then (if i = 0 then c else if i = 1 then q else if i = 2 then a else b) else if j < m then K1 i j else K2 i j
theorem tw_kn_at {c q a b nd m i : Nat} {K1 K2 : Nat → Nat → Nat} : tw_kn c q a b nd m K1 K2 i nd = if i = 0 then c else if i = 1 then q else if i = 2 then a else b := if_pos rfl
theorem tw_kn_lo {c q a b nd m i j : Nat} {K1 K2 : Nat → Nat → Nat} (h : ¬ j = nd) (g : j < m) : tw_kn c q a b nd m K1 K2 i j = K1 i j := by unfold tw_kn; rw [if_neg h, if_pos g]
theorem tw_kn_hi {c q a b nd m i j : Nat} {K1 K2 : Nat → Nat → Nat} (h : ¬ j = nd) (g : ¬ j < m) : tw_kn c q a b nd m K1 K2 i j = K2 i j := by unfold tw_kn; rw [if_neg h, if_neg g]
theorem tw_hk.node {B c q a b nd m e : Nat} {K1 K2 : Nat → Nat → Nat} {σ : tw_Mem} (h1 : tw_hk B K1 (nd + 1) m σ) (h2 : tw_hk B K2 m e σ) (hm : nd < m) (g0 : σ B nd = nI c) (g1 : σ (B + 1) nd = nI q) (g2 : σ (B + 2) nd = nI a) (g3 : tw_pair c → σ (B + 3) nd = nI b) : tw_hk B (tw_kn c q a b nd m K1 K2) nd e σ := fun j ha hb => by
  by_cases z : j = nd
  · subst z
    rw [tw_kn_at, tw_kn_at, tw_kn_at, tw_kn_at]
    exact ⟨g0, fun _ => ⟨g1, g2, g3⟩⟩
  · by_cases y : j < m
    · rw [tw_kn_lo z y, tw_kn_lo z y, tw_kn_lo z y, tw_kn_lo z y]; exact h1 j (by omega) y
    · rw [tw_kn_hi z y, tw_kn_hi z y, tw_kn_hi z y, tw_kn_hi z y]; exact h2 j (by omega) hb
theorem tw_hk.none {B a : Nat} {K : Nat → Nat → Nat} : tw_hk B K a a σ := fun j h1 h2 => by omega
def tw_pF (q : Nat) (σ : tw_Mem) (v : Option Value) (τ : tw_Mem) : Prop := (∃ w, v = some (.int w)) ∧ τ 70 3 = nI q ∧ tw_rF σ τ
def tw_pO (ch : Nat → Nat) (k : Nat) (σ : tw_Mem) (nd : Nat) (K : Nat → Nat → Nat) (p2 nd2 lv2 : Nat) (v : Option Value) (τ : tw_Mem) : Prop := v = some (.int (nI nd)) ∧ tw_cS ch k τ p2 nd2 lv2 ∧ tw_rF σ τ ∧ tw_lo 72 nd σ τ ∧ tw_hk 72 K nd nd2 τ
def tw_cRF (L : Nat) (xs : Nat → Int32) (ch : Nat → Nat) (k f p nd lv q : Nat) : Prop := ∀ (σ : tw_Mem) (op : Nat), op + f = 6 → tw_cS ch k σ p nd lv → tw_E L xs (f + 5) 64 [.ref 70, .int (nI op)] σ (tw_pF q σ)
def tw_cRO (L : Nat) (xs : Nat → Int32) (ch : Nat → Nat) (k f p nd lv p2 nd2 lv2 : Nat) (K : Nat → Nat → Nat) : Prop := ∀ (σ : tw_Mem) (op : Nat), op + f = 6 → tw_cS ch k σ p nd lv → tw_E L xs (f + 5) 64 [.ref 70, .int (nI op)] σ (tw_pO ch k σ nd K p2 nd2 lv2)
theorem tw_cS.cT {ch : Nat → Nat} {k p nd lv : Nat} (h : tw_cS ch k σ p nd lv) : tw_cT ch k σ := h.1
theorem tw_e_isPairB (hc : c < 128) : tw_E L xs 0 72 [.int (nI c)] σ (fun v σ1 => v = some (.int (tw_bl (tw_pair c))) ∧ σ = σ1) := by
  by_cases h : tw_pair c
  · rw [tw_blT h]; exact tw_e_isPair1 h
  · rw [tw_blF h]; exact tw_e_isPair0 hc h
set_option maxHeartbeats 4000000 in
set_option maxRecDepth 100000 in
theorem tw_c88F {Q : Option Value → tw_Mem → Prop} {f op c nd e : Nat} {w1 w2 : Int32} {v3 : Value} (h3 : σ 70 3 = nI e) (he : e ≤ 100) (hnd : nd < 80) (hQ : ∀ v τ, tw_pF e σ v τ → Q v τ) : tw_P L xs (f + 5) 64 88 [.ref 70, .int (nI op), .int (nI c), v3, .int (nI nd), .int w1, .int w2] [] σ Q := by
  refine tw_sg 2 (i1 := 90) (ls1 := [.ref 70, .int (nI op), .int (nI c), v3, .int (nI nd), .int w1, .int w2]) (st1 := [.int (nI 41), .ref 70]) (σ1 := σ) rfl ?_
  refine tw_cl1 rfl (rfl) (by omega) (tw_e_exF (q := e) (by omega) (by repeat (first | exact tw_upd_at | assumption | rw [tw_upd_off (by omega)]))) ?_
  rintro _ _ ⟨rfl, rfl⟩
  show tw_P L xs _ 64 91 [.ref 70, .int (nI op), .int (nI c), v3, .int (nI nd), .int w1, .int w2] [] σ _
  refine tw_sg 5 (i1 := 96) (ls1 := [.ref 70, .int (nI op), .int (nI c), v3, .int (nI nd), .int w1, .int w2]) (st1 := [.int w2, .int w1, .int (nI nd), .ref 71]) (σ1 := σ) rfl ?_
  refine tw_cl0 1 rfl (rfl) (by omega) ?_
  show tw_P L xs _ 54 0 [.ref 71, .int (nI nd), .int w1, .int w2] [] σ _
  refine tw_sg 1 (i1 := 1) (ls1 := [.ref 71, .int (nI nd), .int w1, .int w2]) (st1 := [.int (nI nd)]) (σ1 := σ) rfl ?_
  refine tw_bzF (c := .lt) rfl (by rw [tw_clt', tw_nlt (by omega) (by omega)] <;> omega) ?_
  show tw_P L xs _ 54 2 [.ref 71, .int (nI nd), .int w1, .int w2] [] σ _
  refine tw_sg 3 (i1 := 5) (ls1 := [.ref 71, .int (nI nd), .int w1, .int w2]) (st1 := [.int (σ 71 4), .int (nI nd)]) (σ1 := σ) rfl ?_
  refine tw_bi (c := .ge) rfl (fun h1 => ?_) (fun h1 => ?_)
  · rw [tw_cge] at h1
    refine tw_rv rfl ?_
    show tw_P L xs _ 64 97 [.ref 70, .int (nI op), .int (nI c), v3, .int (nI nd), .int w1, .int w2] [] σ _
    refine tw_sg 1 (i1 := 98) (ls1 := [.ref 70, .int (nI op), .int (nI c), v3, .int (nI nd), .int w1, .int w2]) (st1 := [.int (nI nd)]) (σ1 := σ) rfl ?_
    refine tw_ri rfl (rfl) ?_
    exact hQ _ _ ⟨⟨_, rfl⟩, by repeat (first | exact tw_upd_at | assumption | rw [tw_upd_off (by omega)]), by repeat (first | exact tw_rF.rf | refine tw_rF.upd ?_ (by omega) | refine tw_rF.updc ?_ (by omega))⟩
  · rw [tw_cge'] at h1
    refine tw_sg 2 (i1 := 8) (ls1 := [.ref 71, .int (nI nd), .int w1, .int w2]) (st1 := [.int (nI 80), .int (nI nd)]) (σ1 := σ) rfl ?_
    refine tw_biF (c := .ge) rfl (by rw [tw_cge', tw_nle (by omega) (by omega)] <;> omega) ?_
    show tw_P L xs _ 54 9 [.ref 71, .int (nI nd), .int w1, .int w2] [] σ _
    refine tw_sg 4 (i1 := 13) (ls1 := [.ref 71, .int (nI nd), .int w1, .int w2]) (st1 := [.int w1, .int (nI nd), .ref 74]) (σ1 := σ) rfl ?_
    refine tw_as (k := 74) (j := nd) (len := 80) rfl rfl rfl (rfl) (by omega) (by decide) ?_
    refine tw_sg 4 (i1 := 18) (ls1 := [.ref 71, .int (nI nd), .int w1, .int w2]) (st1 := [.int w2, .int (nI nd), .ref 75]) (σ1 := (tw_upd σ 74 nd w1)) rfl ?_
    refine tw_as (k := 75) (j := nd) (len := 80) rfl rfl rfl (rfl) (by omega) (by decide) ?_
    refine tw_rv rfl ?_
    show tw_P L xs _ 64 97 [.ref 70, .int (nI op), .int (nI c), v3, .int (nI nd), .int w1, .int w2] [] (tw_upd (tw_upd σ 74 nd w1) 75 nd w2) _
    refine tw_sg 1 (i1 := 98) (ls1 := [.ref 70, .int (nI op), .int (nI c), v3, .int (nI nd), .int w1, .int w2]) (st1 := [.int (nI nd)]) (σ1 := (tw_upd (tw_upd σ 74 nd w1) 75 nd w2)) rfl ?_
    refine tw_ri rfl (rfl) ?_
    exact hQ _ _ ⟨⟨_, rfl⟩, by repeat (first | exact tw_upd_at | assumption | rw [tw_upd_off (by omega)]), by repeat (first | exact tw_rF.rf | refine tw_rF.upd ?_ (by omega) | refine tw_rF.updc ?_ (by omega))⟩
set_option maxHeartbeats 4000000 in
set_option maxRecDepth 100000 in
theorem tw_c67F {Q : Option Value → tw_Mem → Prop} {f op c nd e : Nat} {w1 : Int32} {u3 u5 u6 : Value} (hc : c < 128) (h3 : σ 70 3 = nI e) (he : e ≤ 100) (hnd : nd < 80) (hQ : ∀ v τ, tw_pF e σ v τ → Q v τ) : tw_P L xs (f + 5) 64 67 [.ref 70, .int (nI op), .int (nI c), u3, .int (nI nd), u5, u6] [.int w1] σ Q := by
  refine tw_sg 4 (i1 := 71) (ls1 := [.ref 70, .int (nI op), .int (nI c), u3, .int (nI nd), .int w1, .int (-1)]) (st1 := [.int (nI c)]) (σ1 := σ) rfl ?_
  refine tw_cl1 rfl (rfl) (by omega) (tw_e_isPairB (by omega)) ?_
  rintro _ _ ⟨rfl, rfl⟩
  show tw_P L xs _ 64 72 [.ref 70, .int (nI op), .int (nI c), u3, .int (nI nd), .int w1, .int (-1)] [.int (tw_bl (tw_pair c))] σ _
  refine tw_bz (c := .eq) rfl (fun h1 => ?_) (fun h1 => ?_)
  · rw [tw_ceq] at h1
    exact tw_c88F (by repeat (first | exact tw_upd_at | assumption | rw [tw_upd_off (by omega)])) he hnd (fun v τ h => hQ v τ ⟨h.1, h.2.1, tw_rF.tr (by repeat (first | exact tw_rF.rf | refine tw_rF.upd ?_ (by omega) | refine tw_rF.updc ?_ (by omega))) h.2.2⟩)
  · rw [tw_ceq'] at h1
    refine tw_sg 2 (i1 := 75) (ls1 := [.ref 70, .int (nI op), .int (nI c), u3, .int (nI nd), .int w1, .int (-1)]) (st1 := [.int (nI 44), .ref 70]) (σ1 := σ) rfl ?_
    refine tw_cl1 rfl (rfl) (by omega) (tw_e_exF (q := e) (by omega) (by repeat (first | exact tw_upd_at | assumption | rw [tw_upd_off (by omega)]))) ?_
    rintro _ _ ⟨rfl, rfl⟩
    show tw_P L xs _ 64 76 [.ref 70, .int (nI op), .int (nI c), u3, .int (nI nd), .int w1, .int (-1)] [] σ _
    refine tw_sgn 3 (i1 := 79) (ls0 := [.ref 70, .int (nI op), .int (nI c), u3, .int (nI nd), .int w1, .int (-1)]) (st0 := [.int (-1), .int (σ 70 3)]) (σ0 := σ) (ls1 := [.ref 70, .int (nI op), .int (nI c), u3, .int (nI nd), .int w1, .int (-1)]) (st1 := [.int (-1), .int (nI e)]) (σ1 := σ) rfl (rfl) (by simp only [h3, tw_nadd, tw_nmul]) (rfl) ?_
    refine tw_biT (c := .ne) rfl (by rw [tw_cne] <;> (exact (tw_nne1 (by omega)))) ?_
    show tw_P L xs _ 64 86 [.ref 70, .int (nI op), .int (nI c), u3, .int (nI nd), .int w1, .int (-1)] [] σ _
    refine tw_sg 2 (i1 := 88) (ls1 := [.ref 70, .int (nI op), .int (nI c), u3, .int (nI nd), .int w1, .int (-1)]) (st1 := []) (σ1 := σ) rfl ?_
    exact tw_c88F (by repeat (first | exact tw_upd_at | assumption | rw [tw_upd_off (by omega)])) he hnd (fun v τ h => hQ v τ ⟨h.1, h.2.1, tw_rF.tr (by repeat (first | exact tw_rF.rf | refine tw_rF.upd ?_ (by omega) | refine tw_rF.updc ?_ (by omega))) h.2.2⟩)
set_option maxHeartbeats 4000000 in
set_option maxRecDepth 100000 in
theorem tw_c46F {Q : Option Value → tw_Mem → Prop} {f op c q nd e : Nat} {u3 u4 u5 u6 : Value} (hc : c < 128) (h3 : σ 70 3 = nI e) (he : e ≤ 100) (h4 : σ 71 4 = nI nd) (hnd : nd < 80) (hQ : ∀ v τ, tw_pF e σ v τ → Q v τ) : tw_P L xs (f + 5) 64 46 [.ref 70, .int (nI op), .int (nI c), u3, u4, u5, u6] [.int (nI q)] σ Q := by
  refine tw_sg 5 (i1 := 51) (ls1 := [.ref 70, .int (nI op), .int (nI c), .int (nI q), u4, u5, u6]) (st1 := [.int (nI q), .int (nI c), .ref 71]) (σ1 := σ) rfl ?_
  refine tw_cl0 1 rfl (rfl) (by omega) ?_
  show tw_P L xs _ 52 0 [.ref 71, .int (nI c), .int (nI q), tw_U] [] σ _
  refine tw_sgn 2 (i1 := 2) (ls0 := [.ref 71, .int (nI c), .int (nI q), tw_U]) (st0 := [.int (σ 71 4)]) (σ0 := σ) (ls1 := [.ref 71, .int (nI c), .int (nI q), tw_U]) (st1 := [.int (nI nd)]) (σ1 := σ) rfl (rfl) (by simp only [h4, tw_nadd, tw_nmul]) (rfl) ?_
  refine tw_bzF (c := .lt) rfl (by rw [tw_clt', tw_nlt (by omega) (by omega)] <;> omega) ?_
  show tw_P L xs _ 52 3 [.ref 71, .int (nI c), .int (nI q), tw_U] [] σ _
  refine tw_sgn 3 (i1 := 6) (ls0 := [.ref 71, .int (nI c), .int (nI q), tw_U]) (st0 := [.int (nI 80), .int (σ 71 4)]) (σ0 := σ) (ls1 := [.ref 71, .int (nI c), .int (nI q), tw_U]) (st1 := [.int (nI 80), .int (nI nd)]) (σ1 := σ) rfl (rfl) (by simp only [h4, tw_nadd, tw_nmul]) (rfl) ?_
  refine tw_biT (c := .lt) rfl (by rw [tw_clt, tw_nlt (by omega) (by omega)] <;> omega) ?_
  show tw_P L xs _ 52 9 [.ref 71, .int (nI c), .int (nI q), tw_U] [] σ _
  refine tw_sgn 7 (i1 := 16) (ls0 := [.ref 71, .int (nI c), .int (nI q), .int (σ 71 4)]) (st0 := [.int (nI c), .int (σ 71 4), .ref 72]) (σ0 := σ) (ls1 := [.ref 71, .int (nI c), .int (nI q), .int (nI nd)]) (st1 := [.int (nI c), .int (nI nd), .ref 72]) (σ1 := σ) rfl (by simp only [h4, tw_nadd, tw_nmul]) (by simp only [h4, tw_nadd, tw_nmul]) (rfl) ?_
  refine tw_asch (k := 72) (j := nd) (len := 80) (w := (nI c)) rfl rfl rfl (rfl) (by omega) (by decide) (tw_nar_chr _ hc) ?_
  refine tw_sg 4 (i1 := 21) (ls1 := [.ref 71, .int (nI c), .int (nI q), .int (nI nd)]) (st1 := [.int (nI q), .int (nI nd), .ref 73]) (σ1 := (tw_upd σ 72 nd (nI c))) rfl ?_
  refine tw_as (k := 73) (j := nd) (len := 80) rfl rfl rfl (rfl) (by omega) (by decide) ?_
  refine tw_sg 4 (i1 := 26) (ls1 := [.ref 71, .int (nI c), .int (nI q), .int (nI nd)]) (st1 := [.int (-1), .int (nI nd), .ref 74]) (σ1 := (tw_upd (tw_upd σ 72 nd (nI c)) 73 nd (nI q))) rfl ?_
  refine tw_as (k := 74) (j := nd) (len := 80) rfl rfl rfl (rfl) (by omega) (by decide) ?_
  refine tw_sg 4 (i1 := 31) (ls1 := [.ref 71, .int (nI c), .int (nI q), .int (nI nd)]) (st1 := [.int (-1), .int (nI nd), .ref 75]) (σ1 := (tw_upd (tw_upd (tw_upd σ 72 nd (nI c)) 73 nd (nI q)) 74 nd (-1))) rfl ?_
  refine tw_as (k := 75) (j := nd) (len := 80) rfl rfl rfl (rfl) (by omega) (by decide) ?_
  refine tw_sgn 7 (i1 := 39) (ls0 := [.ref 71, .int (nI c), .int (nI q), .int (nI nd)]) (st0 := [.int (nI nd)]) (σ0 := (tw_upd (tw_upd (tw_upd (tw_upd (tw_upd σ 72 nd (nI c)) 73 nd (nI q)) 74 nd (-1)) 75 nd (-1)) 71 4 ((σ 71 4) + nI 1))) (ls1 := [.ref 71, .int (nI c), .int (nI q), .int (nI nd)]) (st1 := [.int (nI nd)]) (σ1 := (tw_upd (tw_upd (tw_upd (tw_upd (tw_upd σ 72 nd (nI c)) 73 nd (nI q)) 74 nd (-1)) 75 nd (-1)) 71 4 (nI (nd + 1)))) rfl (rfl) (rfl) (by simp only [h4, tw_nadd, tw_nmul]) ?_
  refine tw_ri rfl (rfl) ?_
  show tw_P L xs _ 64 52 [.ref 70, .int (nI op), .int (nI c), .int (nI q), u4, u5, u6] [.int (nI nd)] (tw_upd (tw_upd (tw_upd (tw_upd (tw_upd σ 72 nd (nI c)) 73 nd (nI q)) 74 nd (-1)) 75 nd (-1)) 71 4 (nI (nd + 1))) _
  refine tw_sg 3 (i1 := 55) (ls1 := [.ref 70, .int (nI op), .int (nI c), .int (nI q), .int (nI nd), u5, u6]) (st1 := [.int (nI 40), .ref 70]) (σ1 := (tw_upd (tw_upd (tw_upd (tw_upd (tw_upd σ 72 nd (nI c)) 73 nd (nI q)) 74 nd (-1)) 75 nd (-1)) 71 4 (nI (nd + 1)))) rfl ?_
  refine tw_cl1 rfl (rfl) (by omega) (tw_e_exF (q := e) (by omega) (by repeat (first | exact tw_upd_at | assumption | rw [tw_upd_off (by omega)]))) ?_
  rintro _ _ ⟨rfl, rfl⟩
  show tw_P L xs _ 64 56 [.ref 70, .int (nI op), .int (nI c), .int (nI q), .int (nI nd), u5, u6] [] (tw_upd (tw_upd (tw_upd (tw_upd (tw_upd σ 72 nd (nI c)) 73 nd (nI q)) 74 nd (-1)) 75 nd (-1)) 71 4 (nI (nd + 1))) _
  refine tw_sgn 3 (i1 := 59) (ls0 := [.ref 70, .int (nI op), .int (nI c), .int (nI q), .int (nI nd), u5, u6]) (st0 := [.int (-1), .int (σ 70 3)]) (σ0 := (tw_upd (tw_upd (tw_upd (tw_upd (tw_upd σ 72 nd (nI c)) 73 nd (nI q)) 74 nd (-1)) 75 nd (-1)) 71 4 (nI (nd + 1)))) (ls1 := [.ref 70, .int (nI op), .int (nI c), .int (nI q), .int (nI nd), u5, u6]) (st1 := [.int (-1), .int (nI e)]) (σ1 := (tw_upd (tw_upd (tw_upd (tw_upd (tw_upd σ 72 nd (nI c)) 73 nd (nI q)) 74 nd (-1)) 75 nd (-1)) 71 4 (nI (nd + 1)))) rfl (rfl) (by simp only [h3, tw_nadd, tw_nmul]) (rfl) ?_
  refine tw_biT (c := .ne) rfl (by rw [tw_cne] <;> (exact (tw_nne1 (by omega)))) ?_
  show tw_P L xs _ 64 66 [.ref 70, .int (nI op), .int (nI c), .int (nI q), .int (nI nd), u5, u6] [] (tw_upd (tw_upd (tw_upd (tw_upd (tw_upd σ 72 nd (nI c)) 73 nd (nI q)) 74 nd (-1)) 75 nd (-1)) 71 4 (nI (nd + 1))) _
  refine tw_sg 1 (i1 := 67) (ls1 := [.ref 70, .int (nI op), .int (nI c), .int (nI q), .int (nI nd), u5, u6]) (st1 := [.int (-1)]) (σ1 := (tw_upd (tw_upd (tw_upd (tw_upd (tw_upd σ 72 nd (nI c)) 73 nd (nI q)) 74 nd (-1)) 75 nd (-1)) 71 4 (nI (nd + 1)))) rfl ?_
  exact tw_c67F hc (by repeat (first | exact tw_upd_at | assumption | rw [tw_upd_off (by omega)])) he hnd (fun v τ h => hQ v τ ⟨h.1, h.2.1, tw_rF.tr (by repeat (first | exact tw_rF.rf | refine tw_rF.upd ?_ (by omega) | refine tw_rF.updc ?_ (by omega))) h.2.2⟩)
set_option maxHeartbeats 4000000 in
set_option maxRecDepth 100000 in
theorem tw_c88a {ch : Nat → Nat} {Q : Option Value → tw_Mem → Prop} {k f op c nd : Nat} {w1 w2 : Int32} {v3 : Value} {p nd2 lv : Nat} (hC : tw_chs ch k) (hS : tw_cS ch k σ p nd2 lv) (hp : p ≤ 80) (hnd : nd < nd2) (hn2 : nd2 ≤ 80) (hx : ¬ ch p = 41) (hQ : ∀ v τ, tw_pF p σ v τ → Q v τ) : tw_P L xs (f + 5) 64 88 [.ref 70, .int (nI op), .int (nI c), v3, .int (nI nd), .int w1, .int w2] [] σ Q := by
  obtain ⟨hT, h2, h3, h4, h5⟩ := id hS
  refine tw_sg 2 (i1 := 90) (ls1 := [.ref 70, .int (nI op), .int (nI c), v3, .int (nI nd), .int w1, .int w2]) (st1 := [.int (nI 41), .ref 70]) (σ1 := σ) rfl ?_
  refine tw_cl1 rfl (rfl) (by omega) (tw_e_ex0 (p := p) hC (by repeat (first | exact hT | refine tw_cT.upd ?_ (by omega) (by omega) (by omega))) (by repeat (first | exact tw_upd_at | assumption | rw [tw_upd_off (by omega)])) (by omega) (by repeat (first | exact tw_upd_at | assumption | rw [tw_upd_off (by omega)])) (by decide) hx) ?_
  rintro _ _ ⟨rfl, rfl⟩
  show tw_P L xs _ 64 91 [.ref 70, .int (nI op), .int (nI c), v3, .int (nI nd), .int w1, .int w2] [] (tw_upd σ 70 3 (nI p)) _
  refine tw_sg 5 (i1 := 96) (ls1 := [.ref 70, .int (nI op), .int (nI c), v3, .int (nI nd), .int w1, .int w2]) (st1 := [.int w2, .int w1, .int (nI nd), .ref 71]) (σ1 := (tw_upd σ 70 3 (nI p))) rfl ?_
  refine tw_cl0 1 rfl (rfl) (by omega) ?_
  show tw_P L xs _ 54 0 [.ref 71, .int (nI nd), .int w1, .int w2] [] (tw_upd σ 70 3 (nI p)) _
  refine tw_sg 1 (i1 := 1) (ls1 := [.ref 71, .int (nI nd), .int w1, .int w2]) (st1 := [.int (nI nd)]) (σ1 := (tw_upd σ 70 3 (nI p))) rfl ?_
  refine tw_bzF (c := .lt) rfl (by rw [tw_clt', tw_nlt (by omega) (by omega)] <;> omega) ?_
  show tw_P L xs _ 54 2 [.ref 71, .int (nI nd), .int w1, .int w2] [] (tw_upd σ 70 3 (nI p)) _
  refine tw_sgn 3 (i1 := 5) (ls0 := [.ref 71, .int (nI nd), .int w1, .int w2]) (st0 := [.int (σ 71 4), .int (nI nd)]) (σ0 := (tw_upd σ 70 3 (nI p))) (ls1 := [.ref 71, .int (nI nd), .int w1, .int w2]) (st1 := [.int (nI nd2), .int (nI nd)]) (σ1 := (tw_upd σ 70 3 (nI p))) rfl (rfl) (by simp only [h4, tw_nadd, tw_nmul]) (rfl) ?_
  refine tw_biF (c := .ge) rfl (by rw [tw_cge', tw_nle (by omega) (by omega)] <;> omega) ?_
  show tw_P L xs _ 54 6 [.ref 71, .int (nI nd), .int w1, .int w2] [] (tw_upd σ 70 3 (nI p)) _
  refine tw_sg 2 (i1 := 8) (ls1 := [.ref 71, .int (nI nd), .int w1, .int w2]) (st1 := [.int (nI 80), .int (nI nd)]) (σ1 := (tw_upd σ 70 3 (nI p))) rfl ?_
  refine tw_biF (c := .ge) rfl (by rw [tw_cge', tw_nle (by omega) (by omega)] <;> omega) ?_
  show tw_P L xs _ 54 9 [.ref 71, .int (nI nd), .int w1, .int w2] [] (tw_upd σ 70 3 (nI p)) _
  refine tw_sg 4 (i1 := 13) (ls1 := [.ref 71, .int (nI nd), .int w1, .int w2]) (st1 := [.int w1, .int (nI nd), .ref 74]) (σ1 := (tw_upd σ 70 3 (nI p))) rfl ?_
  refine tw_as (k := 74) (j := nd) (len := 80) rfl rfl rfl (rfl) (by omega) (by decide) ?_
  refine tw_sg 4 (i1 := 18) (ls1 := [.ref 71, .int (nI nd), .int w1, .int w2]) (st1 := [.int w2, .int (nI nd), .ref 75]) (σ1 := (tw_upd (tw_upd σ 70 3 (nI p)) 74 nd w1)) rfl ?_
  refine tw_as (k := 75) (j := nd) (len := 80) rfl rfl rfl (rfl) (by omega) (by decide) ?_
  refine tw_rv rfl ?_
  show tw_P L xs _ 64 97 [.ref 70, .int (nI op), .int (nI c), v3, .int (nI nd), .int w1, .int w2] [] (tw_upd (tw_upd (tw_upd σ 70 3 (nI p)) 74 nd w1) 75 nd w2) _
  refine tw_sg 1 (i1 := 98) (ls1 := [.ref 70, .int (nI op), .int (nI c), v3, .int (nI nd), .int w1, .int w2]) (st1 := [.int (nI nd)]) (σ1 := (tw_upd (tw_upd (tw_upd σ 70 3 (nI p)) 74 nd w1) 75 nd w2)) rfl ?_
  refine tw_ri rfl (rfl) ?_
  exact hQ _ _ ⟨⟨_, rfl⟩, by repeat (first | exact tw_upd_at | assumption | rw [tw_upd_off (by omega)]), by repeat (first | exact tw_rF.rf | refine tw_rF.upd ?_ (by omega) | refine tw_rF.updc ?_ (by omega))⟩
set_option maxHeartbeats 4000000 in
set_option maxRecDepth 100000 in
theorem tw_c88b {ch : Nat → Nat} {Q : Option Value → tw_Mem → Prop} {k f op c nd : Nat} {w1 w2 : Int32} {v3 : Value} {p nd2 lv : Nat} (hC : tw_chs ch k) (hS : tw_cS ch k σ p nd2 lv) (hp : p ≤ 80) (hnd : nd < nd2) (hn2 : nd2 ≤ 80) (hx : ch p = 41) (hQ : Q (some (.int (nI nd))) (tw_upd (tw_upd (tw_upd σ 70 2 (nI (p + 1))) 74 nd w1) 75 nd w2)) : tw_P L xs (f + 5) 64 88 [.ref 70, .int (nI op), .int (nI c), v3, .int (nI nd), .int w1, .int w2] [] σ Q := by
  obtain ⟨hT, h2, h3, h4, h5⟩ := id hS
  refine tw_sg 2 (i1 := 90) (ls1 := [.ref 70, .int (nI op), .int (nI c), v3, .int (nI nd), .int w1, .int w2]) (st1 := [.int (nI 41), .ref 70]) (σ1 := σ) rfl ?_
  refine tw_cl1 rfl (rfl) (by omega) (tw_e_ex1 (p := p) hC (by repeat (first | exact hT | refine tw_cT.upd ?_ (by omega) (by omega) (by omega))) (by repeat (first | exact tw_upd_at | assumption | rw [tw_upd_off (by omega)])) (by omega) (by repeat (first | exact tw_upd_at | assumption | rw [tw_upd_off (by omega)])) (by decide) hx) ?_
  rintro _ _ ⟨rfl, rfl⟩
  show tw_P L xs _ 64 91 [.ref 70, .int (nI op), .int (nI c), v3, .int (nI nd), .int w1, .int w2] [] (tw_upd σ 70 2 (nI (p + 1))) _
  refine tw_sg 5 (i1 := 96) (ls1 := [.ref 70, .int (nI op), .int (nI c), v3, .int (nI nd), .int w1, .int w2]) (st1 := [.int w2, .int w1, .int (nI nd), .ref 71]) (σ1 := (tw_upd σ 70 2 (nI (p + 1)))) rfl ?_
  refine tw_cl0 1 rfl (rfl) (by omega) ?_
  show tw_P L xs _ 54 0 [.ref 71, .int (nI nd), .int w1, .int w2] [] (tw_upd σ 70 2 (nI (p + 1))) _
  refine tw_sg 1 (i1 := 1) (ls1 := [.ref 71, .int (nI nd), .int w1, .int w2]) (st1 := [.int (nI nd)]) (σ1 := (tw_upd σ 70 2 (nI (p + 1)))) rfl ?_
  refine tw_bzF (c := .lt) rfl (by rw [tw_clt', tw_nlt (by omega) (by omega)] <;> omega) ?_
  show tw_P L xs _ 54 2 [.ref 71, .int (nI nd), .int w1, .int w2] [] (tw_upd σ 70 2 (nI (p + 1))) _
  refine tw_sgn 3 (i1 := 5) (ls0 := [.ref 71, .int (nI nd), .int w1, .int w2]) (st0 := [.int (σ 71 4), .int (nI nd)]) (σ0 := (tw_upd σ 70 2 (nI (p + 1)))) (ls1 := [.ref 71, .int (nI nd), .int w1, .int w2]) (st1 := [.int (nI nd2), .int (nI nd)]) (σ1 := (tw_upd σ 70 2 (nI (p + 1)))) rfl (rfl) (by simp only [h4, tw_nadd, tw_nmul]) (rfl) ?_
  refine tw_biF (c := .ge) rfl (by rw [tw_cge', tw_nle (by omega) (by omega)] <;> omega) ?_
  show tw_P L xs _ 54 6 [.ref 71, .int (nI nd), .int w1, .int w2] [] (tw_upd σ 70 2 (nI (p + 1))) _
  refine tw_sg 2 (i1 := 8) (ls1 := [.ref 71, .int (nI nd), .int w1, .int w2]) (st1 := [.int (nI 80), .int (nI nd)]) (σ1 := (tw_upd σ 70 2 (nI (p + 1)))) rfl ?_
  refine tw_biF (c := .ge) rfl (by rw [tw_cge', tw_nle (by omega) (by omega)] <;> omega) ?_
  show tw_P L xs _ 54 9 [.ref 71, .int (nI nd), .int w1, .int w2] [] (tw_upd σ 70 2 (nI (p + 1))) _
  refine tw_sg 4 (i1 := 13) (ls1 := [.ref 71, .int (nI nd), .int w1, .int w2]) (st1 := [.int w1, .int (nI nd), .ref 74]) (σ1 := (tw_upd σ 70 2 (nI (p + 1)))) rfl ?_
  refine tw_as (k := 74) (j := nd) (len := 80) rfl rfl rfl (rfl) (by omega) (by decide) ?_
  refine tw_sg 4 (i1 := 18) (ls1 := [.ref 71, .int (nI nd), .int w1, .int w2]) (st1 := [.int w2, .int (nI nd), .ref 75]) (σ1 := (tw_upd (tw_upd σ 70 2 (nI (p + 1))) 74 nd w1)) rfl ?_
  refine tw_as (k := 75) (j := nd) (len := 80) rfl rfl rfl (rfl) (by omega) (by decide) ?_
  refine tw_rv rfl ?_
  show tw_P L xs _ 64 97 [.ref 70, .int (nI op), .int (nI c), v3, .int (nI nd), .int w1, .int w2] [] (tw_upd (tw_upd (tw_upd σ 70 2 (nI (p + 1))) 74 nd w1) 75 nd w2) _
  refine tw_sg 1 (i1 := 98) (ls1 := [.ref 70, .int (nI op), .int (nI c), v3, .int (nI nd), .int w1, .int w2]) (st1 := [.int (nI nd)]) (σ1 := (tw_upd (tw_upd (tw_upd σ 70 2 (nI (p + 1))) 74 nd w1) 75 nd w2)) rfl ?_
  refine tw_ri rfl (rfl) ?_
  exact hQ
/-- what stands when the first part of a law's node is read -/
def tw_c67S (ch : Nat → Nat) (k : Nat) (σ τ : tw_Mem) (c q nd p nd2 lv : Nat) (K1 : Nat → Nat → Nat) : Prop := tw_cS ch k τ p nd2 lv ∧ tw_rF σ τ ∧ tw_lo 72 nd σ τ ∧ τ 72 nd = nI c ∧ τ 73 nd = nI q ∧ tw_hk 72 K1 (nd + 1) nd2 τ
set_option maxHeartbeats 4000000 in
set_option maxRecDepth 100000 in
theorem tw_c67a {ch : Nat → Nat} {Q : Option Value → tw_Mem → Prop} {k f op c q nd : Nat} {α : tw_Mem} {u5 u6 : Value} {K1 : Nat → Nat → Nat} {p nd2 lv : Nat} (hC : tw_chs ch k) (hc : c < 128) (hp : p ≤ 80) (hnd : nd < nd2) (hn2 : nd2 ≤ 80) (hZ : tw_c67S ch k α σ c q nd p nd2 lv K1) (hx : ¬ tw_pair c) (hy : ¬ ch p = 41) (hQ : ∀ v τ, tw_pF p α v τ → Q v τ) : tw_P L xs (f + 5) 64 67 [.ref 70, .int (nI op), .int (nI c), .int (nI q), .int (nI nd), u5, u6] [.int (nI (nd + 1))] σ Q := by
  obtain ⟨hS, z1, z2, z3, z4, z5⟩ := id hZ
  obtain ⟨hT, h2, h3, h4, h5⟩ := id hS
  refine tw_sg 4 (i1 := 71) (ls1 := [.ref 70, .int (nI op), .int (nI c), .int (nI q), .int (nI nd), .int (nI (nd + 1)), .int (-1)]) (st1 := [.int (nI c)]) (σ1 := σ) rfl ?_
  refine tw_cl1 rfl (rfl) (by omega) (tw_e_isPair0 hc hx) ?_
  rintro _ _ ⟨rfl, rfl⟩
  show tw_P L xs _ 64 72 [.ref 70, .int (nI op), .int (nI c), .int (nI q), .int (nI nd), .int (nI (nd + 1)), .int (-1)] [.int (nI 0)] σ _
  refine tw_bzT (c := .eq) rfl (by rw [tw_ceq, tw_neq (by omega) (by omega)] <;> omega) ?_
  show tw_P L xs _ 64 88 [.ref 70, .int (nI op), .int (nI c), .int (nI q), .int (nI nd), .int (nI (nd + 1)), .int (-1)] [] σ _
  exact tw_c88a hC hS hp hnd hn2 hy (fun v τ h => hQ v τ ⟨h.1, h.2.1, tw_rF.tr z1 (tw_rF.tr (by repeat (first | exact tw_rF.rf | refine tw_rF.upd ?_ (by omega) | refine tw_rF.updc ?_ (by omega))) h.2.2)⟩)
set_option maxHeartbeats 4000000 in
set_option maxRecDepth 100000 in
theorem tw_c67b {ch : Nat → Nat} {Q : Option Value → tw_Mem → Prop} {k f op c q nd : Nat} {α : tw_Mem} {u5 u6 : Value} {K1 : Nat → Nat → Nat} {p nd2 lv : Nat} (hC : tw_chs ch k) (hc : c < 128) (hp : p ≤ 80) (hnd : nd < nd2) (hn2 : nd2 ≤ 80) (hZ : tw_c67S ch k α σ c q nd p nd2 lv K1) (hx : ¬ tw_pair c) (hy : ch p = 41) (hQ : ∀ v τ, tw_pO ch k α nd (tw_kn c q (nd + 1) 0 nd nd2 K1 K1) (p + 1) nd2 lv v τ → Q v τ) : tw_P L xs (f + 5) 64 67 [.ref 70, .int (nI op), .int (nI c), .int (nI q), .int (nI nd), u5, u6] [.int (nI (nd + 1))] σ Q := by
  obtain ⟨hS, z1, z2, z3, z4, z5⟩ := id hZ
  obtain ⟨hT, h2, h3, h4, h5⟩ := id hS
  refine tw_sg 4 (i1 := 71) (ls1 := [.ref 70, .int (nI op), .int (nI c), .int (nI q), .int (nI nd), .int (nI (nd + 1)), .int (-1)]) (st1 := [.int (nI c)]) (σ1 := σ) rfl ?_
  refine tw_cl1 rfl (rfl) (by omega) (tw_e_isPair0 hc hx) ?_
  rintro _ _ ⟨rfl, rfl⟩
  show tw_P L xs _ 64 72 [.ref 70, .int (nI op), .int (nI c), .int (nI q), .int (nI nd), .int (nI (nd + 1)), .int (-1)] [.int (nI 0)] σ _
  refine tw_bzT (c := .eq) rfl (by rw [tw_ceq, tw_neq (by omega) (by omega)] <;> omega) ?_
  show tw_P L xs _ 64 88 [.ref 70, .int (nI op), .int (nI c), .int (nI q), .int (nI nd), .int (nI (nd + 1)), .int (-1)] [] σ _
  refine tw_c88b hC hS hp hnd hn2 hy ?_
  refine hQ _ _ ⟨rfl, ⟨by repeat (first | exact hT | refine tw_cT.upd ?_ (by omega) (by omega) (by omega)), by repeat (first | exact tw_upd_at | assumption | rw [tw_upd_off (by omega)]), by repeat (first | exact tw_upd_at | assumption | rw [tw_upd_off (by omega)]), by repeat (first | exact tw_upd_at | assumption | rw [tw_upd_off (by omega)]), by repeat (first | exact tw_upd_at | assumption | rw [tw_upd_off (by omega)])⟩, tw_rF.tr z1 (by repeat (first | exact tw_rF.rf | refine tw_rF.upd ?_ (by omega) | refine tw_rF.updc ?_ (by omega))), tw_lo.tr (nd2 := nd) z2 (by repeat (first | exact tw_lo.rf | refine tw_lo.upd ?_ (by omega))) (Nat.le_refl _), ?_⟩
  refine tw_hk.node (by repeat (first | exact z5 | refine tw_hk.upd ?_ (by omega))) tw_hk.none hnd (by repeat (first | exact tw_upd_at | assumption | rw [tw_upd_off (by omega)])) (by repeat (first | exact tw_upd_at | assumption | rw [tw_upd_off (by omega)])) (by repeat (first | exact tw_upd_at | assumption | rw [tw_upd_off (by omega)])) (fun h => absurd h hx)
set_option maxHeartbeats 4000000 in
set_option maxRecDepth 100000 in
theorem tw_c67c {ch : Nat → Nat} {Q : Option Value → tw_Mem → Prop} {k f op c q nd : Nat} {α : tw_Mem} {u5 u6 : Value} {K1 : Nat → Nat → Nat} {p nd2 lv : Nat} (hC : tw_chs ch k) (hc : c < 128) (hp : p ≤ 80) (hnd : nd < nd2) (hn2 : nd2 ≤ 80) (hZ : tw_c67S ch k α σ c q nd p nd2 lv K1) (hx : tw_pair c) (hy : ¬ ch p = 44) (hQ : ∀ v τ, tw_pF p α v τ → Q v τ) : tw_P L xs (f + 5) 64 67 [.ref 70, .int (nI op), .int (nI c), .int (nI q), .int (nI nd), u5, u6] [.int (nI (nd + 1))] σ Q := by
  obtain ⟨hS, z1, z2, z3, z4, z5⟩ := id hZ
  obtain ⟨hT, h2, h3, h4, h5⟩ := id hS
  refine tw_sg 4 (i1 := 71) (ls1 := [.ref 70, .int (nI op), .int (nI c), .int (nI q), .int (nI nd), .int (nI (nd + 1)), .int (-1)]) (st1 := [.int (nI c)]) (σ1 := σ) rfl ?_
  refine tw_cl1 rfl (rfl) (by omega) (tw_e_isPair1 hx) ?_
  rintro _ _ ⟨rfl, rfl⟩
  show tw_P L xs _ 64 72 [.ref 70, .int (nI op), .int (nI c), .int (nI q), .int (nI nd), .int (nI (nd + 1)), .int (-1)] [.int (nI 1)] σ _
  refine tw_bzF (c := .eq) rfl (by rw [tw_ceq', tw_neq (by omega) (by omega)] <;> omega) ?_
  show tw_P L xs _ 64 73 [.ref 70, .int (nI op), .int (nI c), .int (nI q), .int (nI nd), .int (nI (nd + 1)), .int (-1)] [] σ _
  refine tw_sg 2 (i1 := 75) (ls1 := [.ref 70, .int (nI op), .int (nI c), .int (nI q), .int (nI nd), .int (nI (nd + 1)), .int (-1)]) (st1 := [.int (nI 44), .ref 70]) (σ1 := σ) rfl ?_
  refine tw_cl1 rfl (rfl) (by omega) (tw_e_ex0 (p := p) hC (by repeat (first | exact hT | refine tw_cT.upd ?_ (by omega) (by omega) (by omega))) (by repeat (first | exact tw_upd_at | assumption | rw [tw_upd_off (by omega)])) (by omega) (by repeat (first | exact tw_upd_at | assumption | rw [tw_upd_off (by omega)])) (by decide) hy) ?_
  rintro _ _ ⟨rfl, rfl⟩
  show tw_P L xs _ 64 76 [.ref 70, .int (nI op), .int (nI c), .int (nI q), .int (nI nd), .int (nI (nd + 1)), .int (-1)] [] (tw_upd σ 70 3 (nI p)) _
  refine tw_sg 3 (i1 := 79) (ls1 := [.ref 70, .int (nI op), .int (nI c), .int (nI q), .int (nI nd), .int (nI (nd + 1)), .int (-1)]) (st1 := [.int (-1), .int (nI p)]) (σ1 := (tw_upd σ 70 3 (nI p))) rfl ?_
  refine tw_biT (c := .ne) rfl (by rw [tw_cne] <;> (exact (tw_nne1 (by omega)))) ?_
  show tw_P L xs _ 64 86 [.ref 70, .int (nI op), .int (nI c), .int (nI q), .int (nI nd), .int (nI (nd + 1)), .int (-1)] [] (tw_upd σ 70 3 (nI p)) _
  refine tw_sg 2 (i1 := 88) (ls1 := [.ref 70, .int (nI op), .int (nI c), .int (nI q), .int (nI nd), .int (nI (nd + 1)), .int (-1)]) (st1 := []) (σ1 := (tw_upd σ 70 3 (nI p))) rfl ?_
  exact tw_c88F (by repeat (first | exact tw_upd_at | assumption | rw [tw_upd_off (by omega)])) (by omega) (by omega) (fun v τ h => hQ v τ ⟨h.1, h.2.1, tw_rF.tr z1 (tw_rF.tr (by repeat (first | exact tw_rF.rf | refine tw_rF.upd ?_ (by omega) | refine tw_rF.updc ?_ (by omega))) h.2.2)⟩)
set_option maxHeartbeats 4000000 in
set_option maxRecDepth 100000 in
theorem tw_c67d {ch : Nat → Nat} {Q : Option Value → tw_Mem → Prop} {k f op c q nd e : Nat} {α : tw_Mem} {u5 u6 : Value} {K1 : Nat → Nat → Nat} {p nd2 lv : Nat} (hC : tw_chs ch k) (hc : c < 128) (hp : p ≤ 80) (hnd : nd < nd2) (hn2 : nd2 ≤ 80) (hZ : tw_c67S ch k α σ c q nd p nd2 lv K1) (hof : op + f = 6) (h0 : 1 ≤ f) (hx : tw_pair c) (hy : ch p = 44) (he : e ≤ 100) (hR : tw_cRF L xs ch k (f - 1) (p + 1) nd2 lv e) (hQ : ∀ v τ, tw_pF e α v τ → Q v τ) : tw_P L xs (f + 5) 64 67 [.ref 70, .int (nI op), .int (nI c), .int (nI q), .int (nI nd), u5, u6] [.int (nI (nd + 1))] σ Q := by
  obtain ⟨hS, z1, z2, z3, z4, z5⟩ := id hZ
  obtain ⟨hT, h2, h3, h4, h5⟩ := id hS
  refine tw_sg 4 (i1 := 71) (ls1 := [.ref 70, .int (nI op), .int (nI c), .int (nI q), .int (nI nd), .int (nI (nd + 1)), .int (-1)]) (st1 := [.int (nI c)]) (σ1 := σ) rfl ?_
  refine tw_cl1 rfl (rfl) (by omega) (tw_e_isPair1 hx) ?_
  rintro _ _ ⟨rfl, rfl⟩
  show tw_P L xs _ 64 72 [.ref 70, .int (nI op), .int (nI c), .int (nI q), .int (nI nd), .int (nI (nd + 1)), .int (-1)] [.int (nI 1)] σ _
  refine tw_bzF (c := .eq) rfl (by rw [tw_ceq', tw_neq (by omega) (by omega)] <;> omega) ?_
  show tw_P L xs _ 64 73 [.ref 70, .int (nI op), .int (nI c), .int (nI q), .int (nI nd), .int (nI (nd + 1)), .int (-1)] [] σ _
  refine tw_sg 2 (i1 := 75) (ls1 := [.ref 70, .int (nI op), .int (nI c), .int (nI q), .int (nI nd), .int (nI (nd + 1)), .int (-1)]) (st1 := [.int (nI 44), .ref 70]) (σ1 := σ) rfl ?_
  refine tw_cl1 rfl (rfl) (by omega) (tw_e_ex1 (p := p) hC (by repeat (first | exact hT | refine tw_cT.upd ?_ (by omega) (by omega) (by omega))) (by repeat (first | exact tw_upd_at | assumption | rw [tw_upd_off (by omega)])) (by omega) (by repeat (first | exact tw_upd_at | assumption | rw [tw_upd_off (by omega)])) (by decide) hy) ?_
  rintro _ _ ⟨rfl, rfl⟩
  show tw_P L xs _ 64 76 [.ref 70, .int (nI op), .int (nI c), .int (nI q), .int (nI nd), .int (nI (nd + 1)), .int (-1)] [] (tw_upd σ 70 2 (nI (p + 1))) _
  refine tw_sgn 3 (i1 := 79) (ls0 := [.ref 70, .int (nI op), .int (nI c), .int (nI q), .int (nI nd), .int (nI (nd + 1)), .int (-1)]) (st0 := [.int (-1), .int (σ 70 3)]) (σ0 := (tw_upd σ 70 2 (nI (p + 1)))) (ls1 := [.ref 70, .int (nI op), .int (nI c), .int (nI q), .int (nI nd), .int (nI (nd + 1)), .int (-1)]) (st1 := [.int (-1), .int (-1)]) (σ1 := (tw_upd σ 70 2 (nI (p + 1)))) rfl (rfl) (by simp only [h3, tw_nadd, tw_nmul]) (rfl) ?_
  refine tw_biF (c := .ne) rfl (by rw [tw_cne'] <;> (exact rfl)) ?_
  show tw_P L xs _ 64 80 [.ref 70, .int (nI op), .int (nI c), .int (nI q), .int (nI nd), .int (nI (nd + 1)), .int (-1)] [] (tw_upd σ 70 2 (nI (p + 1))) _
  refine tw_sgn 4 (i1 := 84) (ls0 := [.ref 70, .int (nI op), .int (nI c), .int (nI q), .int (nI nd), .int (nI (nd + 1)), .int (-1)]) (st0 := [.int (nI op + nI 1), .ref 70]) (σ0 := (tw_upd σ 70 2 (nI (p + 1)))) (ls1 := [.ref 70, .int (nI op), .int (nI c), .int (nI q), .int (nI nd), .int (nI (nd + 1)), .int (-1)]) (st1 := [.int (nI (op + 1)), .ref 70]) (σ1 := (tw_upd σ 70 2 (nI (p + 1)))) rfl (rfl) (by simp only [tw_nadd, tw_nmul]) (rfl) ?_
  refine tw_cl1 rfl (rfl) (by omega) (hR ((tw_upd σ 70 2 (nI (p + 1)))) (op + 1) (by omega) ⟨by repeat (first | exact hT | refine tw_cT.upd ?_ (by omega) (by omega) (by omega)), by repeat (first | exact tw_upd_at | assumption | rw [tw_upd_off (by omega)]), by repeat (first | exact tw_upd_at | assumption | rw [tw_upd_off (by omega)]), by repeat (first | exact tw_upd_at | assumption | rw [tw_upd_off (by omega)]), by repeat (first | exact tw_upd_at | assumption | rw [tw_upd_off (by omega)])⟩) ?_
  rintro _ τ ⟨⟨w, rfl⟩, hf, hr⟩
  show tw_P L xs _ 64 85 [.ref 70, .int (nI op), .int (nI c), .int (nI q), .int (nI nd), .int (nI (nd + 1)), .int (-1)] [.int w] τ _
  refine tw_sg 2 (i1 := 88) (ls1 := [.ref 70, .int (nI op), .int (nI c), .int (nI q), .int (nI nd), .int (nI (nd + 1)), .int w]) (st1 := []) (σ1 := τ) rfl ?_
  exact tw_c88F hf he (by omega) (fun v υ h => hQ v υ ⟨h.1, h.2.1, tw_rF.tr z1 (tw_rF.tr (tw_rF.tr (by repeat (first | exact tw_rF.rf | refine tw_rF.upd ?_ (by omega) | refine tw_rF.updc ?_ (by omega))) hr) h.2.2)⟩)
set_option maxHeartbeats 4000000 in
set_option maxRecDepth 100000 in
theorem tw_c67e {ch : Nat → Nat} {Q : Option Value → tw_Mem → Prop} {k f op c q nd : Nat} {α : tw_Mem} {u5 u6 : Value} {K1 : Nat → Nat → Nat} {p nd2 lv : Nat} (hC : tw_chs ch k) (hc : c < 128) (hp : p ≤ 80) (hnd : nd < nd2) (hn2 : nd2 ≤ 80) (hZ : tw_c67S ch k α σ c q nd p nd2 lv K1) {K2 : Nat → Nat → Nat} {p3 nd3 lv3 : Nat} (hof : op + f = 6) (h0 : 1 ≤ f) (hx : tw_pair c) (hy : ch p = 44) (hp3 : p3 ≤ 80) (hn3 : nd2 ≤ nd3) (hn3b : nd3 ≤ 80) (hR : tw_cRO L xs ch k (f - 1) (p + 1) nd2 lv p3 nd3 lv3 K2) (hw : ¬ ch p3 = 41) (hQ : ∀ v τ, tw_pF p3 α v τ → Q v τ) : tw_P L xs (f + 5) 64 67 [.ref 70, .int (nI op), .int (nI c), .int (nI q), .int (nI nd), u5, u6] [.int (nI (nd + 1))] σ Q := by
  obtain ⟨hS, z1, z2, z3, z4, z5⟩ := id hZ
  obtain ⟨hT, h2, h3, h4, h5⟩ := id hS
  refine tw_sg 4 (i1 := 71) (ls1 := [.ref 70, .int (nI op), .int (nI c), .int (nI q), .int (nI nd), .int (nI (nd + 1)), .int (-1)]) (st1 := [.int (nI c)]) (σ1 := σ) rfl ?_
  refine tw_cl1 rfl (rfl) (by omega) (tw_e_isPair1 hx) ?_
  rintro _ _ ⟨rfl, rfl⟩
  show tw_P L xs _ 64 72 [.ref 70, .int (nI op), .int (nI c), .int (nI q), .int (nI nd), .int (nI (nd + 1)), .int (-1)] [.int (nI 1)] σ _
  refine tw_bzF (c := .eq) rfl (by rw [tw_ceq', tw_neq (by omega) (by omega)] <;> omega) ?_
  show tw_P L xs _ 64 73 [.ref 70, .int (nI op), .int (nI c), .int (nI q), .int (nI nd), .int (nI (nd + 1)), .int (-1)] [] σ _
  refine tw_sg 2 (i1 := 75) (ls1 := [.ref 70, .int (nI op), .int (nI c), .int (nI q), .int (nI nd), .int (nI (nd + 1)), .int (-1)]) (st1 := [.int (nI 44), .ref 70]) (σ1 := σ) rfl ?_
  refine tw_cl1 rfl (rfl) (by omega) (tw_e_ex1 (p := p) hC (by repeat (first | exact hT | refine tw_cT.upd ?_ (by omega) (by omega) (by omega))) (by repeat (first | exact tw_upd_at | assumption | rw [tw_upd_off (by omega)])) (by omega) (by repeat (first | exact tw_upd_at | assumption | rw [tw_upd_off (by omega)])) (by decide) hy) ?_
  rintro _ _ ⟨rfl, rfl⟩
  show tw_P L xs _ 64 76 [.ref 70, .int (nI op), .int (nI c), .int (nI q), .int (nI nd), .int (nI (nd + 1)), .int (-1)] [] (tw_upd σ 70 2 (nI (p + 1))) _
  refine tw_sgn 3 (i1 := 79) (ls0 := [.ref 70, .int (nI op), .int (nI c), .int (nI q), .int (nI nd), .int (nI (nd + 1)), .int (-1)]) (st0 := [.int (-1), .int (σ 70 3)]) (σ0 := (tw_upd σ 70 2 (nI (p + 1)))) (ls1 := [.ref 70, .int (nI op), .int (nI c), .int (nI q), .int (nI nd), .int (nI (nd + 1)), .int (-1)]) (st1 := [.int (-1), .int (-1)]) (σ1 := (tw_upd σ 70 2 (nI (p + 1)))) rfl (rfl) (by simp only [h3, tw_nadd, tw_nmul]) (rfl) ?_
  refine tw_biF (c := .ne) rfl (by rw [tw_cne'] <;> (exact rfl)) ?_
  show tw_P L xs _ 64 80 [.ref 70, .int (nI op), .int (nI c), .int (nI q), .int (nI nd), .int (nI (nd + 1)), .int (-1)] [] (tw_upd σ 70 2 (nI (p + 1))) _
  refine tw_sgn 4 (i1 := 84) (ls0 := [.ref 70, .int (nI op), .int (nI c), .int (nI q), .int (nI nd), .int (nI (nd + 1)), .int (-1)]) (st0 := [.int (nI op + nI 1), .ref 70]) (σ0 := (tw_upd σ 70 2 (nI (p + 1)))) (ls1 := [.ref 70, .int (nI op), .int (nI c), .int (nI q), .int (nI nd), .int (nI (nd + 1)), .int (-1)]) (st1 := [.int (nI (op + 1)), .ref 70]) (σ1 := (tw_upd σ 70 2 (nI (p + 1)))) rfl (rfl) (by simp only [tw_nadd, tw_nmul]) (rfl) ?_
  refine tw_cl1 rfl (rfl) (by omega) (hR ((tw_upd σ 70 2 (nI (p + 1)))) (op + 1) (by omega) ⟨by repeat (first | exact hT | refine tw_cT.upd ?_ (by omega) (by omega) (by omega)), by repeat (first | exact tw_upd_at | assumption | rw [tw_upd_off (by omega)]), by repeat (first | exact tw_upd_at | assumption | rw [tw_upd_off (by omega)]), by repeat (first | exact tw_upd_at | assumption | rw [tw_upd_off (by omega)]), by repeat (first | exact tw_upd_at | assumption | rw [tw_upd_off (by omega)])⟩) ?_
  rintro _ τ ⟨rfl, hS2, hr, hl, hk2⟩
  show tw_P L xs _ 64 85 [.ref 70, .int (nI op), .int (nI c), .int (nI q), .int (nI nd), .int (nI (nd + 1)), .int (-1)] [.int (nI nd2)] τ _
  refine tw_sg 2 (i1 := 88) (ls1 := [.ref 70, .int (nI op), .int (nI c), .int (nI q), .int (nI nd), .int (nI (nd + 1)), .int (nI nd2)]) (st1 := []) (σ1 := τ) rfl ?_
  exact tw_c88a hC hS2 hp3 (by omega) hn3b hw (fun v υ h => hQ v υ ⟨h.1, h.2.1, tw_rF.tr z1 (tw_rF.tr (tw_rF.tr (by repeat (first | exact tw_rF.rf | refine tw_rF.upd ?_ (by omega) | refine tw_rF.updc ?_ (by omega))) hr) h.2.2)⟩)
set_option maxHeartbeats 4000000 in
set_option maxRecDepth 100000 in
theorem tw_c67f {ch : Nat → Nat} {Q : Option Value → tw_Mem → Prop} {k f op c q nd : Nat} {α : tw_Mem} {u5 u6 : Value} {K1 : Nat → Nat → Nat} {p nd2 lv : Nat} (hC : tw_chs ch k) (hc : c < 128) (hp : p ≤ 80) (hnd : nd < nd2) (hn2 : nd2 ≤ 80) (hZ : tw_c67S ch k α σ c q nd p nd2 lv K1) {K2 : Nat → Nat → Nat} {p3 nd3 lv3 : Nat} (hof : op + f = 6) (h0 : 1 ≤ f) (hx : tw_pair c) (hy : ch p = 44) (hp3 : p3 ≤ 80) (hn3 : nd2 ≤ nd3) (hn3b : nd3 ≤ 80) (hR : tw_cRO L xs ch k (f - 1) (p + 1) nd2 lv p3 nd3 lv3 K2) (hw : ch p3 = 41) (hQ : ∀ v τ, tw_pO ch k α nd (tw_kn c q (nd + 1) nd2 nd nd2 K1 K2) (p3 + 1) nd3 lv3 v τ → Q v τ) : tw_P L xs (f + 5) 64 67 [.ref 70, .int (nI op), .int (nI c), .int (nI q), .int (nI nd), u5, u6] [.int (nI (nd + 1))] σ Q := by
  obtain ⟨hS, z1, z2, z3, z4, z5⟩ := id hZ
  obtain ⟨hT, h2, h3, h4, h5⟩ := id hS
  refine tw_sg 4 (i1 := 71) (ls1 := [.ref 70, .int (nI op), .int (nI c), .int (nI q), .int (nI nd), .int (nI (nd + 1)), .int (-1)]) (st1 := [.int (nI c)]) (σ1 := σ) rfl ?_
  refine tw_cl1 rfl (rfl) (by omega) (tw_e_isPair1 hx) ?_
  rintro _ _ ⟨rfl, rfl⟩
  show tw_P L xs _ 64 72 [.ref 70, .int (nI op), .int (nI c), .int (nI q), .int (nI nd), .int (nI (nd + 1)), .int (-1)] [.int (nI 1)] σ _
  refine tw_bzF (c := .eq) rfl (by rw [tw_ceq', tw_neq (by omega) (by omega)] <;> omega) ?_
  show tw_P L xs _ 64 73 [.ref 70, .int (nI op), .int (nI c), .int (nI q), .int (nI nd), .int (nI (nd + 1)), .int (-1)] [] σ _
  refine tw_sg 2 (i1 := 75) (ls1 := [.ref 70, .int (nI op), .int (nI c), .int (nI q), .int (nI nd), .int (nI (nd + 1)), .int (-1)]) (st1 := [.int (nI 44), .ref 70]) (σ1 := σ) rfl ?_
  refine tw_cl1 rfl (rfl) (by omega) (tw_e_ex1 (p := p) hC (by repeat (first | exact hT | refine tw_cT.upd ?_ (by omega) (by omega) (by omega))) (by repeat (first | exact tw_upd_at | assumption | rw [tw_upd_off (by omega)])) (by omega) (by repeat (first | exact tw_upd_at | assumption | rw [tw_upd_off (by omega)])) (by decide) hy) ?_
  rintro _ _ ⟨rfl, rfl⟩
  show tw_P L xs _ 64 76 [.ref 70, .int (nI op), .int (nI c), .int (nI q), .int (nI nd), .int (nI (nd + 1)), .int (-1)] [] (tw_upd σ 70 2 (nI (p + 1))) _
  refine tw_sgn 3 (i1 := 79) (ls0 := [.ref 70, .int (nI op), .int (nI c), .int (nI q), .int (nI nd), .int (nI (nd + 1)), .int (-1)]) (st0 := [.int (-1), .int (σ 70 3)]) (σ0 := (tw_upd σ 70 2 (nI (p + 1)))) (ls1 := [.ref 70, .int (nI op), .int (nI c), .int (nI q), .int (nI nd), .int (nI (nd + 1)), .int (-1)]) (st1 := [.int (-1), .int (-1)]) (σ1 := (tw_upd σ 70 2 (nI (p + 1)))) rfl (rfl) (by simp only [h3, tw_nadd, tw_nmul]) (rfl) ?_
  refine tw_biF (c := .ne) rfl (by rw [tw_cne'] <;> (exact rfl)) ?_
  show tw_P L xs _ 64 80 [.ref 70, .int (nI op), .int (nI c), .int (nI q), .int (nI nd), .int (nI (nd + 1)), .int (-1)] [] (tw_upd σ 70 2 (nI (p + 1))) _
  refine tw_sgn 4 (i1 := 84) (ls0 := [.ref 70, .int (nI op), .int (nI c), .int (nI q), .int (nI nd), .int (nI (nd + 1)), .int (-1)]) (st0 := [.int (nI op + nI 1), .ref 70]) (σ0 := (tw_upd σ 70 2 (nI (p + 1)))) (ls1 := [.ref 70, .int (nI op), .int (nI c), .int (nI q), .int (nI nd), .int (nI (nd + 1)), .int (-1)]) (st1 := [.int (nI (op + 1)), .ref 70]) (σ1 := (tw_upd σ 70 2 (nI (p + 1)))) rfl (rfl) (by simp only [tw_nadd, tw_nmul]) (rfl) ?_
  refine tw_cl1 rfl (rfl) (by omega) (hR ((tw_upd σ 70 2 (nI (p + 1)))) (op + 1) (by omega) ⟨by repeat (first | exact hT | refine tw_cT.upd ?_ (by omega) (by omega) (by omega)), by repeat (first | exact tw_upd_at | assumption | rw [tw_upd_off (by omega)]), by repeat (first | exact tw_upd_at | assumption | rw [tw_upd_off (by omega)]), by repeat (first | exact tw_upd_at | assumption | rw [tw_upd_off (by omega)]), by repeat (first | exact tw_upd_at | assumption | rw [tw_upd_off (by omega)])⟩) ?_
  rintro _ τ ⟨rfl, hS2, hr, hl, hk2⟩
  show tw_P L xs _ 64 85 [.ref 70, .int (nI op), .int (nI c), .int (nI q), .int (nI nd), .int (nI (nd + 1)), .int (-1)] [.int (nI nd2)] τ _
  refine tw_sg 2 (i1 := 88) (ls1 := [.ref 70, .int (nI op), .int (nI c), .int (nI q), .int (nI nd), .int (nI (nd + 1)), .int (nI nd2)]) (st1 := []) (σ1 := τ) rfl ?_
  refine tw_c88b hC hS2 hp3 (by omega) hn3b hw ?_
  obtain ⟨hT, -, -, y4, y5⟩ := id hS2
  have y3 := hS2.2.2.1
  have l2 : ∀ i, i < 4 → τ (72 + i) nd = σ (72 + i) nd := fun i hi => (hl i hi nd (by omega)).trans (tw_upd_off (by omega))
  refine hQ _ _ ⟨rfl, ⟨by repeat (first | exact hT | refine tw_cT.upd ?_ (by omega) (by omega) (by omega)), by repeat (first | exact tw_upd_at | assumption | rw [tw_upd_off (by omega)]), by repeat (first | exact tw_upd_at | assumption | rw [tw_upd_off (by omega)]), by repeat (first | exact tw_upd_at | assumption | rw [tw_upd_off (by omega)]), by repeat (first | exact tw_upd_at | assumption | rw [tw_upd_off (by omega)])⟩, tw_rF.tr z1 (tw_rF.tr (tw_rF.tr (by repeat (first | exact tw_rF.rf | refine tw_rF.upd ?_ (by omega) | refine tw_rF.updc ?_ (by omega))) hr) (by repeat (first | exact tw_rF.rf | refine tw_rF.upd ?_ (by omega) | refine tw_rF.updc ?_ (by omega)))), ?_, ?_⟩
  · exact fun i hi j hj => by rw [tw_upd_off (by omega), tw_upd_off (by omega), tw_upd_off (by omega), hl i hi j (by omega), tw_upd_off (by omega)]; exact z2 i hi j hj
  · refine tw_hk.node (tw_hk.upd (tw_hk.upd (tw_hk.upd (tw_hk.lo (tw_hk.upd z5 (by omega)) hl (by omega)) (by omega)) (by omega)) (by omega)) (by repeat (first | exact hk2 | refine tw_hk.upd ?_ (by omega))) hnd ?_ ?_ (by repeat (first | exact tw_upd_at | assumption | rw [tw_upd_off (by omega)])) (fun _ => by repeat (first | exact tw_upd_at | assumption | rw [tw_upd_off (by omega)]))
    · rw [tw_upd_off (by omega), tw_upd_off (by omega), tw_upd_off (by omega)]; exact (l2 0 (by omega)).trans z3
    · rw [tw_upd_off (by omega), tw_upd_off (by omega), tw_upd_off (by omega)]; exact (l2 1 (by omega)).trans z4
set_option maxHeartbeats 4000000 in
set_option maxRecDepth 100000 in
theorem tw_c46a {ch : Nat → Nat} {Q : Option Value → tw_Mem → Prop} {k f op c q nd : Nat} {u3 u4 u5 u6 : Value} {p lv : Nat} (hC : tw_chs ch k) (hc : c < 128) (hp : p ≤ 80) (hnd : nd < 80) (hS : tw_cS ch k σ p nd lv) (hx : ¬ ch p = 40) (hQ : ∀ v τ, tw_pF p σ v τ → Q v τ) : tw_P L xs (f + 5) 64 46 [.ref 70, .int (nI op), .int (nI c), u3, u4, u5, u6] [.int (nI q)] σ Q := by
  obtain ⟨hT, h2, h3, h4, h5⟩ := id hS
  refine tw_sg 5 (i1 := 51) (ls1 := [.ref 70, .int (nI op), .int (nI c), .int (nI q), u4, u5, u6]) (st1 := [.int (nI q), .int (nI c), .ref 71]) (σ1 := σ) rfl ?_
  refine tw_cl0 1 rfl (rfl) (by omega) ?_
  show tw_P L xs _ 52 0 [.ref 71, .int (nI c), .int (nI q), tw_U] [] σ _
  refine tw_sgn 2 (i1 := 2) (ls0 := [.ref 71, .int (nI c), .int (nI q), tw_U]) (st0 := [.int (σ 71 4)]) (σ0 := σ) (ls1 := [.ref 71, .int (nI c), .int (nI q), tw_U]) (st1 := [.int (nI nd)]) (σ1 := σ) rfl (rfl) (by simp only [h4, tw_nadd, tw_nmul]) (rfl) ?_
  refine tw_bzF (c := .lt) rfl (by rw [tw_clt', tw_nlt (by omega) (by omega)] <;> omega) ?_
  show tw_P L xs _ 52 3 [.ref 71, .int (nI c), .int (nI q), tw_U] [] σ _
  refine tw_sgn 3 (i1 := 6) (ls0 := [.ref 71, .int (nI c), .int (nI q), tw_U]) (st0 := [.int (nI 80), .int (σ 71 4)]) (σ0 := σ) (ls1 := [.ref 71, .int (nI c), .int (nI q), tw_U]) (st1 := [.int (nI 80), .int (nI nd)]) (σ1 := σ) rfl (rfl) (by simp only [h4, tw_nadd, tw_nmul]) (rfl) ?_
  refine tw_biT (c := .lt) rfl (by rw [tw_clt, tw_nlt (by omega) (by omega)] <;> omega) ?_
  show tw_P L xs _ 52 9 [.ref 71, .int (nI c), .int (nI q), tw_U] [] σ _
  refine tw_sgn 7 (i1 := 16) (ls0 := [.ref 71, .int (nI c), .int (nI q), .int (σ 71 4)]) (st0 := [.int (nI c), .int (σ 71 4), .ref 72]) (σ0 := σ) (ls1 := [.ref 71, .int (nI c), .int (nI q), .int (nI nd)]) (st1 := [.int (nI c), .int (nI nd), .ref 72]) (σ1 := σ) rfl (by simp only [h4, tw_nadd, tw_nmul]) (by simp only [h4, tw_nadd, tw_nmul]) (rfl) ?_
  refine tw_asch (k := 72) (j := nd) (len := 80) (w := (nI c)) rfl rfl rfl (rfl) (by omega) (by decide) (tw_nar_chr _ hc) ?_
  refine tw_sg 4 (i1 := 21) (ls1 := [.ref 71, .int (nI c), .int (nI q), .int (nI nd)]) (st1 := [.int (nI q), .int (nI nd), .ref 73]) (σ1 := (tw_upd σ 72 nd (nI c))) rfl ?_
  refine tw_as (k := 73) (j := nd) (len := 80) rfl rfl rfl (rfl) (by omega) (by decide) ?_
  refine tw_sg 4 (i1 := 26) (ls1 := [.ref 71, .int (nI c), .int (nI q), .int (nI nd)]) (st1 := [.int (-1), .int (nI nd), .ref 74]) (σ1 := (tw_upd (tw_upd σ 72 nd (nI c)) 73 nd (nI q))) rfl ?_
  refine tw_as (k := 74) (j := nd) (len := 80) rfl rfl rfl (rfl) (by omega) (by decide) ?_
  refine tw_sg 4 (i1 := 31) (ls1 := [.ref 71, .int (nI c), .int (nI q), .int (nI nd)]) (st1 := [.int (-1), .int (nI nd), .ref 75]) (σ1 := (tw_upd (tw_upd (tw_upd σ 72 nd (nI c)) 73 nd (nI q)) 74 nd (-1))) rfl ?_
  refine tw_as (k := 75) (j := nd) (len := 80) rfl rfl rfl (rfl) (by omega) (by decide) ?_
  refine tw_sgn 7 (i1 := 39) (ls0 := [.ref 71, .int (nI c), .int (nI q), .int (nI nd)]) (st0 := [.int (nI nd)]) (σ0 := (tw_upd (tw_upd (tw_upd (tw_upd (tw_upd σ 72 nd (nI c)) 73 nd (nI q)) 74 nd (-1)) 75 nd (-1)) 71 4 ((σ 71 4) + nI 1))) (ls1 := [.ref 71, .int (nI c), .int (nI q), .int (nI nd)]) (st1 := [.int (nI nd)]) (σ1 := (tw_upd (tw_upd (tw_upd (tw_upd (tw_upd σ 72 nd (nI c)) 73 nd (nI q)) 74 nd (-1)) 75 nd (-1)) 71 4 (nI (nd + 1)))) rfl (rfl) (rfl) (by simp only [h4, tw_nadd, tw_nmul]) ?_
  refine tw_ri rfl (rfl) ?_
  show tw_P L xs _ 64 52 [.ref 70, .int (nI op), .int (nI c), .int (nI q), u4, u5, u6] [.int (nI nd)] (tw_upd (tw_upd (tw_upd (tw_upd (tw_upd σ 72 nd (nI c)) 73 nd (nI q)) 74 nd (-1)) 75 nd (-1)) 71 4 (nI (nd + 1))) _
  refine tw_sg 3 (i1 := 55) (ls1 := [.ref 70, .int (nI op), .int (nI c), .int (nI q), .int (nI nd), u5, u6]) (st1 := [.int (nI 40), .ref 70]) (σ1 := (tw_upd (tw_upd (tw_upd (tw_upd (tw_upd σ 72 nd (nI c)) 73 nd (nI q)) 74 nd (-1)) 75 nd (-1)) 71 4 (nI (nd + 1)))) rfl ?_
  refine tw_cl1 rfl (rfl) (by omega) (tw_e_ex0 (p := p) hC (by repeat (first | exact hT | refine tw_cT.upd ?_ (by omega) (by omega) (by omega))) (by repeat (first | exact tw_upd_at | assumption | rw [tw_upd_off (by omega)])) (by omega) (by repeat (first | exact tw_upd_at | assumption | rw [tw_upd_off (by omega)])) (by decide) hx) ?_
  rintro _ _ ⟨rfl, rfl⟩
  show tw_P L xs _ 64 56 [.ref 70, .int (nI op), .int (nI c), .int (nI q), .int (nI nd), u5, u6] [] (tw_upd (tw_upd (tw_upd (tw_upd (tw_upd (tw_upd σ 72 nd (nI c)) 73 nd (nI q)) 74 nd (-1)) 75 nd (-1)) 71 4 (nI (nd + 1))) 70 3 (nI p)) _
  refine tw_sg 3 (i1 := 59) (ls1 := [.ref 70, .int (nI op), .int (nI c), .int (nI q), .int (nI nd), u5, u6]) (st1 := [.int (-1), .int (nI p)]) (σ1 := (tw_upd (tw_upd (tw_upd (tw_upd (tw_upd (tw_upd σ 72 nd (nI c)) 73 nd (nI q)) 74 nd (-1)) 75 nd (-1)) 71 4 (nI (nd + 1))) 70 3 (nI p))) rfl ?_
  refine tw_biT (c := .ne) rfl (by rw [tw_cne] <;> (exact (tw_nne1 (by omega)))) ?_
  show tw_P L xs _ 64 66 [.ref 70, .int (nI op), .int (nI c), .int (nI q), .int (nI nd), u5, u6] [] (tw_upd (tw_upd (tw_upd (tw_upd (tw_upd (tw_upd σ 72 nd (nI c)) 73 nd (nI q)) 74 nd (-1)) 75 nd (-1)) 71 4 (nI (nd + 1))) 70 3 (nI p)) _
  refine tw_sg 1 (i1 := 67) (ls1 := [.ref 70, .int (nI op), .int (nI c), .int (nI q), .int (nI nd), u5, u6]) (st1 := [.int (-1)]) (σ1 := (tw_upd (tw_upd (tw_upd (tw_upd (tw_upd (tw_upd σ 72 nd (nI c)) 73 nd (nI q)) 74 nd (-1)) 75 nd (-1)) 71 4 (nI (nd + 1))) 70 3 (nI p))) rfl ?_
  exact tw_c67F hc (by repeat (first | exact tw_upd_at | assumption | rw [tw_upd_off (by omega)])) (by omega) hnd (fun v τ h => hQ v τ ⟨h.1, h.2.1, tw_rF.tr (by repeat (first | exact tw_rF.rf | refine tw_rF.upd ?_ (by omega) | refine tw_rF.updc ?_ (by omega))) h.2.2⟩)
set_option maxHeartbeats 4000000 in
set_option maxRecDepth 100000 in
theorem tw_c46b {ch : Nat → Nat} {Q : Option Value → tw_Mem → Prop} {k f op c q nd e : Nat} {u3 u4 u5 u6 : Value} {p lv : Nat} (hC : tw_chs ch k) (hc : c < 128) (hp : p ≤ 80) (hnd : nd < 80) (hS : tw_cS ch k σ p nd lv) (hof : op + f = 6) (h0 : 1 ≤ f) (hx : ch p = 40) (he : e ≤ 100) (hR : tw_cRF L xs ch k (f - 1) (p + 1) (nd + 1) lv e) (hQ : ∀ v τ, tw_pF e σ v τ → Q v τ) : tw_P L xs (f + 5) 64 46 [.ref 70, .int (nI op), .int (nI c), u3, u4, u5, u6] [.int (nI q)] σ Q := by
  obtain ⟨hT, h2, h3, h4, h5⟩ := id hS
  refine tw_sg 5 (i1 := 51) (ls1 := [.ref 70, .int (nI op), .int (nI c), .int (nI q), u4, u5, u6]) (st1 := [.int (nI q), .int (nI c), .ref 71]) (σ1 := σ) rfl ?_
  refine tw_cl0 1 rfl (rfl) (by omega) ?_
  show tw_P L xs _ 52 0 [.ref 71, .int (nI c), .int (nI q), tw_U] [] σ _
  refine tw_sgn 2 (i1 := 2) (ls0 := [.ref 71, .int (nI c), .int (nI q), tw_U]) (st0 := [.int (σ 71 4)]) (σ0 := σ) (ls1 := [.ref 71, .int (nI c), .int (nI q), tw_U]) (st1 := [.int (nI nd)]) (σ1 := σ) rfl (rfl) (by simp only [h4, tw_nadd, tw_nmul]) (rfl) ?_
  refine tw_bzF (c := .lt) rfl (by rw [tw_clt', tw_nlt (by omega) (by omega)] <;> omega) ?_
  show tw_P L xs _ 52 3 [.ref 71, .int (nI c), .int (nI q), tw_U] [] σ _
  refine tw_sgn 3 (i1 := 6) (ls0 := [.ref 71, .int (nI c), .int (nI q), tw_U]) (st0 := [.int (nI 80), .int (σ 71 4)]) (σ0 := σ) (ls1 := [.ref 71, .int (nI c), .int (nI q), tw_U]) (st1 := [.int (nI 80), .int (nI nd)]) (σ1 := σ) rfl (rfl) (by simp only [h4, tw_nadd, tw_nmul]) (rfl) ?_
  refine tw_biT (c := .lt) rfl (by rw [tw_clt, tw_nlt (by omega) (by omega)] <;> omega) ?_
  show tw_P L xs _ 52 9 [.ref 71, .int (nI c), .int (nI q), tw_U] [] σ _
  refine tw_sgn 7 (i1 := 16) (ls0 := [.ref 71, .int (nI c), .int (nI q), .int (σ 71 4)]) (st0 := [.int (nI c), .int (σ 71 4), .ref 72]) (σ0 := σ) (ls1 := [.ref 71, .int (nI c), .int (nI q), .int (nI nd)]) (st1 := [.int (nI c), .int (nI nd), .ref 72]) (σ1 := σ) rfl (by simp only [h4, tw_nadd, tw_nmul]) (by simp only [h4, tw_nadd, tw_nmul]) (rfl) ?_
  refine tw_asch (k := 72) (j := nd) (len := 80) (w := (nI c)) rfl rfl rfl (rfl) (by omega) (by decide) (tw_nar_chr _ hc) ?_
  refine tw_sg 4 (i1 := 21) (ls1 := [.ref 71, .int (nI c), .int (nI q), .int (nI nd)]) (st1 := [.int (nI q), .int (nI nd), .ref 73]) (σ1 := (tw_upd σ 72 nd (nI c))) rfl ?_
  refine tw_as (k := 73) (j := nd) (len := 80) rfl rfl rfl (rfl) (by omega) (by decide) ?_
  refine tw_sg 4 (i1 := 26) (ls1 := [.ref 71, .int (nI c), .int (nI q), .int (nI nd)]) (st1 := [.int (-1), .int (nI nd), .ref 74]) (σ1 := (tw_upd (tw_upd σ 72 nd (nI c)) 73 nd (nI q))) rfl ?_
  refine tw_as (k := 74) (j := nd) (len := 80) rfl rfl rfl (rfl) (by omega) (by decide) ?_
  refine tw_sg 4 (i1 := 31) (ls1 := [.ref 71, .int (nI c), .int (nI q), .int (nI nd)]) (st1 := [.int (-1), .int (nI nd), .ref 75]) (σ1 := (tw_upd (tw_upd (tw_upd σ 72 nd (nI c)) 73 nd (nI q)) 74 nd (-1))) rfl ?_
  refine tw_as (k := 75) (j := nd) (len := 80) rfl rfl rfl (rfl) (by omega) (by decide) ?_
  refine tw_sgn 7 (i1 := 39) (ls0 := [.ref 71, .int (nI c), .int (nI q), .int (nI nd)]) (st0 := [.int (nI nd)]) (σ0 := (tw_upd (tw_upd (tw_upd (tw_upd (tw_upd σ 72 nd (nI c)) 73 nd (nI q)) 74 nd (-1)) 75 nd (-1)) 71 4 ((σ 71 4) + nI 1))) (ls1 := [.ref 71, .int (nI c), .int (nI q), .int (nI nd)]) (st1 := [.int (nI nd)]) (σ1 := (tw_upd (tw_upd (tw_upd (tw_upd (tw_upd σ 72 nd (nI c)) 73 nd (nI q)) 74 nd (-1)) 75 nd (-1)) 71 4 (nI (nd + 1)))) rfl (rfl) (rfl) (by simp only [h4, tw_nadd, tw_nmul]) ?_
  refine tw_ri rfl (rfl) ?_
  show tw_P L xs _ 64 52 [.ref 70, .int (nI op), .int (nI c), .int (nI q), u4, u5, u6] [.int (nI nd)] (tw_upd (tw_upd (tw_upd (tw_upd (tw_upd σ 72 nd (nI c)) 73 nd (nI q)) 74 nd (-1)) 75 nd (-1)) 71 4 (nI (nd + 1))) _
  refine tw_sg 3 (i1 := 55) (ls1 := [.ref 70, .int (nI op), .int (nI c), .int (nI q), .int (nI nd), u5, u6]) (st1 := [.int (nI 40), .ref 70]) (σ1 := (tw_upd (tw_upd (tw_upd (tw_upd (tw_upd σ 72 nd (nI c)) 73 nd (nI q)) 74 nd (-1)) 75 nd (-1)) 71 4 (nI (nd + 1)))) rfl ?_
  refine tw_cl1 rfl (rfl) (by omega) (tw_e_ex1 (p := p) hC (by repeat (first | exact hT | refine tw_cT.upd ?_ (by omega) (by omega) (by omega))) (by repeat (first | exact tw_upd_at | assumption | rw [tw_upd_off (by omega)])) (by omega) (by repeat (first | exact tw_upd_at | assumption | rw [tw_upd_off (by omega)])) (by decide) hx) ?_
  rintro _ _ ⟨rfl, rfl⟩
  show tw_P L xs _ 64 56 [.ref 70, .int (nI op), .int (nI c), .int (nI q), .int (nI nd), u5, u6] [] (tw_upd (tw_upd (tw_upd (tw_upd (tw_upd (tw_upd σ 72 nd (nI c)) 73 nd (nI q)) 74 nd (-1)) 75 nd (-1)) 71 4 (nI (nd + 1))) 70 2 (nI (p + 1))) _
  refine tw_sgn 3 (i1 := 59) (ls0 := [.ref 70, .int (nI op), .int (nI c), .int (nI q), .int (nI nd), u5, u6]) (st0 := [.int (-1), .int (σ 70 3)]) (σ0 := (tw_upd (tw_upd (tw_upd (tw_upd (tw_upd (tw_upd σ 72 nd (nI c)) 73 nd (nI q)) 74 nd (-1)) 75 nd (-1)) 71 4 (nI (nd + 1))) 70 2 (nI (p + 1)))) (ls1 := [.ref 70, .int (nI op), .int (nI c), .int (nI q), .int (nI nd), u5, u6]) (st1 := [.int (-1), .int (-1)]) (σ1 := (tw_upd (tw_upd (tw_upd (tw_upd (tw_upd (tw_upd σ 72 nd (nI c)) 73 nd (nI q)) 74 nd (-1)) 75 nd (-1)) 71 4 (nI (nd + 1))) 70 2 (nI (p + 1)))) rfl (rfl) (by simp only [h3, tw_nadd, tw_nmul]) (rfl) ?_
  refine tw_biF (c := .ne) rfl (by rw [tw_cne'] <;> (exact rfl)) ?_
  show tw_P L xs _ 64 60 [.ref 70, .int (nI op), .int (nI c), .int (nI q), .int (nI nd), u5, u6] [] (tw_upd (tw_upd (tw_upd (tw_upd (tw_upd (tw_upd σ 72 nd (nI c)) 73 nd (nI q)) 74 nd (-1)) 75 nd (-1)) 71 4 (nI (nd + 1))) 70 2 (nI (p + 1))) _
  refine tw_sgn 4 (i1 := 64) (ls0 := [.ref 70, .int (nI op), .int (nI c), .int (nI q), .int (nI nd), u5, u6]) (st0 := [.int (nI op + nI 1), .ref 70]) (σ0 := (tw_upd (tw_upd (tw_upd (tw_upd (tw_upd (tw_upd σ 72 nd (nI c)) 73 nd (nI q)) 74 nd (-1)) 75 nd (-1)) 71 4 (nI (nd + 1))) 70 2 (nI (p + 1)))) (ls1 := [.ref 70, .int (nI op), .int (nI c), .int (nI q), .int (nI nd), u5, u6]) (st1 := [.int (nI (op + 1)), .ref 70]) (σ1 := (tw_upd (tw_upd (tw_upd (tw_upd (tw_upd (tw_upd σ 72 nd (nI c)) 73 nd (nI q)) 74 nd (-1)) 75 nd (-1)) 71 4 (nI (nd + 1))) 70 2 (nI (p + 1)))) rfl (rfl) (by simp only [tw_nadd, tw_nmul]) (rfl) ?_
  refine tw_cl1 rfl (rfl) (by omega) (hR ((tw_upd (tw_upd (tw_upd (tw_upd (tw_upd (tw_upd σ 72 nd (nI c)) 73 nd (nI q)) 74 nd (-1)) 75 nd (-1)) 71 4 (nI (nd + 1))) 70 2 (nI (p + 1)))) (op + 1) (by omega) ⟨by repeat (first | exact hT | refine tw_cT.upd ?_ (by omega) (by omega) (by omega)), by repeat (first | exact tw_upd_at | assumption | rw [tw_upd_off (by omega)]), by repeat (first | exact tw_upd_at | assumption | rw [tw_upd_off (by omega)]), by repeat (first | exact tw_upd_at | assumption | rw [tw_upd_off (by omega)]), by repeat (first | exact tw_upd_at | assumption | rw [tw_upd_off (by omega)])⟩) ?_
  rintro _ τ ⟨⟨w, rfl⟩, hf, hr⟩
  show tw_P L xs _ 64 65 [.ref 70, .int (nI op), .int (nI c), .int (nI q), .int (nI nd), u5, u6] [.int w] τ _
  refine tw_sg 1 (i1 := 67) (ls1 := [.ref 70, .int (nI op), .int (nI c), .int (nI q), .int (nI nd), u5, u6]) (st1 := [.int w]) (σ1 := τ) rfl ?_
  exact tw_c67F hc hf he hnd (fun v υ h => hQ v υ ⟨h.1, h.2.1, tw_rF.tr (tw_rF.tr (by repeat (first | exact tw_rF.rf | refine tw_rF.upd ?_ (by omega) | refine tw_rF.updc ?_ (by omega))) hr) h.2.2⟩)
set_option maxHeartbeats 4000000 in
set_option maxRecDepth 100000 in
theorem tw_c46c {ch : Nat → Nat} {Q : Option Value → tw_Mem → Prop} {k f op c q nd : Nat} {u3 u4 u5 u6 : Value} {p lv : Nat} (hC : tw_chs ch k) (hc : c < 128) (hp : p ≤ 80) (hnd : nd < 80) (hS : tw_cS ch k σ p nd lv) {K1 : Nat → Nat → Nat} {p2 nd2 lv2 : Nat} (hof : op + f = 6) (h0 : 1 ≤ f) (hx : ch p = 40) (hR : tw_cRO L xs ch k (f - 1) (p + 1) (nd + 1) lv p2 nd2 lv2 K1) (hQ : ∀ τ, tw_c67S ch k σ τ c q nd p2 nd2 lv2 K1 → tw_P L xs (f + 5) 64 67 [.ref 70, .int (nI op), .int (nI c), .int (nI q), .int (nI nd), u5, u6] [.int (nI (nd + 1))] τ Q) : tw_P L xs (f + 5) 64 46 [.ref 70, .int (nI op), .int (nI c), u3, u4, u5, u6] [.int (nI q)] σ Q := by
  obtain ⟨hT, h2, h3, h4, h5⟩ := id hS
  refine tw_sg 5 (i1 := 51) (ls1 := [.ref 70, .int (nI op), .int (nI c), .int (nI q), u4, u5, u6]) (st1 := [.int (nI q), .int (nI c), .ref 71]) (σ1 := σ) rfl ?_
  refine tw_cl0 1 rfl (rfl) (by omega) ?_
  show tw_P L xs _ 52 0 [.ref 71, .int (nI c), .int (nI q), tw_U] [] σ _
  refine tw_sgn 2 (i1 := 2) (ls0 := [.ref 71, .int (nI c), .int (nI q), tw_U]) (st0 := [.int (σ 71 4)]) (σ0 := σ) (ls1 := [.ref 71, .int (nI c), .int (nI q), tw_U]) (st1 := [.int (nI nd)]) (σ1 := σ) rfl (rfl) (by simp only [h4, tw_nadd, tw_nmul]) (rfl) ?_
  refine tw_bzF (c := .lt) rfl (by rw [tw_clt', tw_nlt (by omega) (by omega)] <;> omega) ?_
  show tw_P L xs _ 52 3 [.ref 71, .int (nI c), .int (nI q), tw_U] [] σ _
  refine tw_sgn 3 (i1 := 6) (ls0 := [.ref 71, .int (nI c), .int (nI q), tw_U]) (st0 := [.int (nI 80), .int (σ 71 4)]) (σ0 := σ) (ls1 := [.ref 71, .int (nI c), .int (nI q), tw_U]) (st1 := [.int (nI 80), .int (nI nd)]) (σ1 := σ) rfl (rfl) (by simp only [h4, tw_nadd, tw_nmul]) (rfl) ?_
  refine tw_biT (c := .lt) rfl (by rw [tw_clt, tw_nlt (by omega) (by omega)] <;> omega) ?_
  show tw_P L xs _ 52 9 [.ref 71, .int (nI c), .int (nI q), tw_U] [] σ _
  refine tw_sgn 7 (i1 := 16) (ls0 := [.ref 71, .int (nI c), .int (nI q), .int (σ 71 4)]) (st0 := [.int (nI c), .int (σ 71 4), .ref 72]) (σ0 := σ) (ls1 := [.ref 71, .int (nI c), .int (nI q), .int (nI nd)]) (st1 := [.int (nI c), .int (nI nd), .ref 72]) (σ1 := σ) rfl (by simp only [h4, tw_nadd, tw_nmul]) (by simp only [h4, tw_nadd, tw_nmul]) (rfl) ?_
  refine tw_asch (k := 72) (j := nd) (len := 80) (w := (nI c)) rfl rfl rfl (rfl) (by omega) (by decide) (tw_nar_chr _ hc) ?_
  refine tw_sg 4 (i1 := 21) (ls1 := [.ref 71, .int (nI c), .int (nI q), .int (nI nd)]) (st1 := [.int (nI q), .int (nI nd), .ref 73]) (σ1 := (tw_upd σ 72 nd (nI c))) rfl ?_
  refine tw_as (k := 73) (j := nd) (len := 80) rfl rfl rfl (rfl) (by omega) (by decide) ?_
  refine tw_sg 4 (i1 := 26) (ls1 := [.ref 71, .int (nI c), .int (nI q), .int (nI nd)]) (st1 := [.int (-1), .int (nI nd), .ref 74]) (σ1 := (tw_upd (tw_upd σ 72 nd (nI c)) 73 nd (nI q))) rfl ?_
  refine tw_as (k := 74) (j := nd) (len := 80) rfl rfl rfl (rfl) (by omega) (by decide) ?_
  refine tw_sg 4 (i1 := 31) (ls1 := [.ref 71, .int (nI c), .int (nI q), .int (nI nd)]) (st1 := [.int (-1), .int (nI nd), .ref 75]) (σ1 := (tw_upd (tw_upd (tw_upd σ 72 nd (nI c)) 73 nd (nI q)) 74 nd (-1))) rfl ?_
  refine tw_as (k := 75) (j := nd) (len := 80) rfl rfl rfl (rfl) (by omega) (by decide) ?_
  refine tw_sgn 7 (i1 := 39) (ls0 := [.ref 71, .int (nI c), .int (nI q), .int (nI nd)]) (st0 := [.int (nI nd)]) (σ0 := (tw_upd (tw_upd (tw_upd (tw_upd (tw_upd σ 72 nd (nI c)) 73 nd (nI q)) 74 nd (-1)) 75 nd (-1)) 71 4 ((σ 71 4) + nI 1))) (ls1 := [.ref 71, .int (nI c), .int (nI q), .int (nI nd)]) (st1 := [.int (nI nd)]) (σ1 := (tw_upd (tw_upd (tw_upd (tw_upd (tw_upd σ 72 nd (nI c)) 73 nd (nI q)) 74 nd (-1)) 75 nd (-1)) 71 4 (nI (nd + 1)))) rfl (rfl) (rfl) (by simp only [h4, tw_nadd, tw_nmul]) ?_
  refine tw_ri rfl (rfl) ?_
  show tw_P L xs _ 64 52 [.ref 70, .int (nI op), .int (nI c), .int (nI q), u4, u5, u6] [.int (nI nd)] (tw_upd (tw_upd (tw_upd (tw_upd (tw_upd σ 72 nd (nI c)) 73 nd (nI q)) 74 nd (-1)) 75 nd (-1)) 71 4 (nI (nd + 1))) _
  refine tw_sg 3 (i1 := 55) (ls1 := [.ref 70, .int (nI op), .int (nI c), .int (nI q), .int (nI nd), u5, u6]) (st1 := [.int (nI 40), .ref 70]) (σ1 := (tw_upd (tw_upd (tw_upd (tw_upd (tw_upd σ 72 nd (nI c)) 73 nd (nI q)) 74 nd (-1)) 75 nd (-1)) 71 4 (nI (nd + 1)))) rfl ?_
  refine tw_cl1 rfl (rfl) (by omega) (tw_e_ex1 (p := p) hC (by repeat (first | exact hT | refine tw_cT.upd ?_ (by omega) (by omega) (by omega))) (by repeat (first | exact tw_upd_at | assumption | rw [tw_upd_off (by omega)])) (by omega) (by repeat (first | exact tw_upd_at | assumption | rw [tw_upd_off (by omega)])) (by decide) hx) ?_
  rintro _ _ ⟨rfl, rfl⟩
  show tw_P L xs _ 64 56 [.ref 70, .int (nI op), .int (nI c), .int (nI q), .int (nI nd), u5, u6] [] (tw_upd (tw_upd (tw_upd (tw_upd (tw_upd (tw_upd σ 72 nd (nI c)) 73 nd (nI q)) 74 nd (-1)) 75 nd (-1)) 71 4 (nI (nd + 1))) 70 2 (nI (p + 1))) _
  refine tw_sgn 3 (i1 := 59) (ls0 := [.ref 70, .int (nI op), .int (nI c), .int (nI q), .int (nI nd), u5, u6]) (st0 := [.int (-1), .int (σ 70 3)]) (σ0 := (tw_upd (tw_upd (tw_upd (tw_upd (tw_upd (tw_upd σ 72 nd (nI c)) 73 nd (nI q)) 74 nd (-1)) 75 nd (-1)) 71 4 (nI (nd + 1))) 70 2 (nI (p + 1)))) (ls1 := [.ref 70, .int (nI op), .int (nI c), .int (nI q), .int (nI nd), u5, u6]) (st1 := [.int (-1), .int (-1)]) (σ1 := (tw_upd (tw_upd (tw_upd (tw_upd (tw_upd (tw_upd σ 72 nd (nI c)) 73 nd (nI q)) 74 nd (-1)) 75 nd (-1)) 71 4 (nI (nd + 1))) 70 2 (nI (p + 1)))) rfl (rfl) (by simp only [h3, tw_nadd, tw_nmul]) (rfl) ?_
  refine tw_biF (c := .ne) rfl (by rw [tw_cne'] <;> (exact rfl)) ?_
  show tw_P L xs _ 64 60 [.ref 70, .int (nI op), .int (nI c), .int (nI q), .int (nI nd), u5, u6] [] (tw_upd (tw_upd (tw_upd (tw_upd (tw_upd (tw_upd σ 72 nd (nI c)) 73 nd (nI q)) 74 nd (-1)) 75 nd (-1)) 71 4 (nI (nd + 1))) 70 2 (nI (p + 1))) _
  refine tw_sgn 4 (i1 := 64) (ls0 := [.ref 70, .int (nI op), .int (nI c), .int (nI q), .int (nI nd), u5, u6]) (st0 := [.int (nI op + nI 1), .ref 70]) (σ0 := (tw_upd (tw_upd (tw_upd (tw_upd (tw_upd (tw_upd σ 72 nd (nI c)) 73 nd (nI q)) 74 nd (-1)) 75 nd (-1)) 71 4 (nI (nd + 1))) 70 2 (nI (p + 1)))) (ls1 := [.ref 70, .int (nI op), .int (nI c), .int (nI q), .int (nI nd), u5, u6]) (st1 := [.int (nI (op + 1)), .ref 70]) (σ1 := (tw_upd (tw_upd (tw_upd (tw_upd (tw_upd (tw_upd σ 72 nd (nI c)) 73 nd (nI q)) 74 nd (-1)) 75 nd (-1)) 71 4 (nI (nd + 1))) 70 2 (nI (p + 1)))) rfl (rfl) (by simp only [tw_nadd, tw_nmul]) (rfl) ?_
  refine tw_cl1 rfl (rfl) (by omega) (hR ((tw_upd (tw_upd (tw_upd (tw_upd (tw_upd (tw_upd σ 72 nd (nI c)) 73 nd (nI q)) 74 nd (-1)) 75 nd (-1)) 71 4 (nI (nd + 1))) 70 2 (nI (p + 1)))) (op + 1) (by omega) ⟨by repeat (first | exact hT | refine tw_cT.upd ?_ (by omega) (by omega) (by omega)), by repeat (first | exact tw_upd_at | assumption | rw [tw_upd_off (by omega)]), by repeat (first | exact tw_upd_at | assumption | rw [tw_upd_off (by omega)]), by repeat (first | exact tw_upd_at | assumption | rw [tw_upd_off (by omega)]), by repeat (first | exact tw_upd_at | assumption | rw [tw_upd_off (by omega)])⟩) ?_
  rintro _ τ ⟨rfl, hS2, hr, hl, hk2⟩
  show tw_P L xs _ 64 65 [.ref 70, .int (nI op), .int (nI c), .int (nI q), .int (nI nd), u5, u6] [.int (nI (nd + 1))] τ _
  refine tw_sg 1 (i1 := 67) (ls1 := [.ref 70, .int (nI op), .int (nI c), .int (nI q), .int (nI nd), u5, u6]) (st1 := [.int (nI (nd + 1))]) (σ1 := τ) rfl ?_
  refine hQ τ ⟨hS2, tw_rF.tr (by repeat (first | exact tw_rF.rf | refine tw_rF.upd ?_ (by omega) | refine tw_rF.updc ?_ (by omega))) hr, fun i hi j hj => (hl i hi j (by omega)).trans (by repeat (first | rfl | rw [tw_upd_off (by omega)])), (hl 0 (by omega) nd (by omega)).trans (by repeat (first | exact tw_upd_at | assumption | rw [tw_upd_off (by omega)])), (hl 1 (by omega) nd (by omega)).trans (by repeat (first | exact tw_upd_at | assumption | rw [tw_upd_off (by omega)])), hk2⟩
end tw_s64
