/-! a law read by the reference -/
section tw_s66
variable {L : Nat} {xs : Nat → Int32} {σ : tw_Mem} {x y w : Int32} {n r i c k h q a b e : Nat}
/-- what reading a law leaves alone, the reference -/
def tw_mFr (σ τ : tw_Mem) : Prop := ∀ k j, ¬ (k = 88 ∧ 18 ≤ j ∧ j ≤ 22) → ¬ (104 ≤ k ∧ k ≤ 107) → τ k j = σ k j
theorem tw_mFr.rf : tw_mFr σ σ := fun _ _ _ _ => rfl
theorem tw_mFr.tr {σ τ υ : tw_Mem} (h : tw_mFr σ τ) (g : tw_mFr τ υ) : tw_mFr σ υ := fun k j a b => (g k j a b).trans (h k j a b)
theorem tw_mFr.upd {σ τ : tw_Mem} {k0 j0 : Nat} {z : Int32} (h : tw_mFr σ τ) (g : (k0 = 88 ∧ 18 ≤ j0 ∧ j0 ≤ 22) ∨ (104 ≤ k0 ∧ k0 ≤ 107)) : tw_mFr σ (tw_upd τ k0 j0 z) := fun k j a b => (tw_upd_off (by omega)).trans (h k j a b)
def tw_mpF (q : Nat) (σ : tw_Mem) (v : Option Value) (τ : tw_Mem) : Prop := (∃ w, v = some (.int w)) ∧ τ 88 19 = nI q ∧ tw_mFr σ τ
def tw_mpO (ch : Nat → Nat) (k : Nat) (σ : tw_Mem) (nd : Nat) (K : Nat → Nat → Nat) (p2 nd2 lv2 op : Nat) (v : Option Value) (τ : tw_Mem) : Prop := v = some (.int (nI nd)) ∧ tw_mS ch k τ p2 nd2 lv2 op ∧ tw_mFr σ τ ∧ tw_lo 104 nd σ τ ∧ tw_hk 104 K nd nd2 τ
def tw_mRF (L : Nat) (xs : Nat → Int32) (ch : Nat → Nat) (k f p nd lv q : Nat) : Prop := ∀ (σ : tw_Mem) (op : Nat), op + f = 6 → tw_mS ch k σ p nd lv op → tw_E L xs (f + 5) 193 [.ref 88] σ (tw_mpF q σ)
def tw_mRO (L : Nat) (xs : Nat → Int32) (ch : Nat → Nat) (k f p nd lv p2 nd2 lv2 : Nat) (K : Nat → Nat → Nat) : Prop := ∀ (σ : tw_Mem) (op : Nat), op + f = 6 → tw_mS ch k σ p nd lv op → tw_E L xs (f + 5) 193 [.ref 88] σ (tw_mpO ch k σ nd K p2 nd2 lv2 op)
theorem tw_hvne {ch : Nat → Nat} {k p a : Nat} (hC : tw_chs ch k) (ha : 0 < a ∧ a < 128) (hz : ¬ ch p = a) : ¬ tw_hv ch p = nI a := fun e => by
  have b0 := tw_ch_lt hC p
  by_cases z0 : ch p = 0
  · rw [tw_hv0 z0] at e; exact tw_nne1 (s := a) (by omega) e.symm
  · rw [tw_hv1 z0] at e; exact hz (tw_ninj (by omega) (by omega) e)
set_option maxHeartbeats 4000000 in
set_option maxRecDepth 100000 in
theorem tw_m_rlF {d : Nat} (h3 : σ 88 19 = nI e) (he : e ≤ 100) : tw_E L xs d 193 [.ref 88] σ (fun v τ => v = some (.int (nI 0)) ∧ σ = τ) := by
  show tw_P L xs _ 193 0 [.ref 88, tw_U, tw_U, tw_U, tw_U] [] σ _
  refine tw_sgn 2 (i1 := 2) (ls0 := [.ref 88, tw_U, tw_U, tw_U, tw_U]) (st0 := [.int (σ 88 19)]) (σ0 := σ) (ls1 := [.ref 88, tw_U, tw_U, tw_U, tw_U]) (st1 := [.int (nI e)]) (σ1 := σ) rfl (rfl) (by simp only [h3, tw_nadd, tw_nmul]) (rfl) ?_
  refine tw_bzF (c := .lt) rfl (by rw [tw_clt'] <;> (exact (tw_nge0 (by omega)))) ?_
  show tw_P L xs _ 193 3 [.ref 88, tw_U, tw_U, tw_U, tw_U] [] σ _
  refine tw_sg 1 (i1 := 4) (ls1 := [.ref 88, tw_U, tw_U, tw_U, tw_U]) (st1 := [.int (nI 0)]) (σ1 := σ) rfl ?_
  refine tw_ri rfl (rfl) ?_
  exact ⟨rfl, rfl⟩
set_option maxHeartbeats 4000000 in
set_option maxRecDepth 100000 in
theorem tw_m159F {Q : Option Value → tw_Mem → Prop} {f nd e : Nat} {b4 : Int32} {v1 v3 : Value} (h3 : σ 88 19 = nI e) (he : e ≤ 100) (hQ : ∀ v τ, tw_mpF e σ v τ → Q v τ) : tw_P L xs (f + 5) 193 159 [.ref 88, v1, .int (nI nd), v3, .int b4] [] σ Q := by
  refine tw_sg 2 (i1 := 161) (ls1 := [.ref 88, v1, .int (nI nd), v3, .int b4]) (st1 := [.int (nI 41), .ref 88]) (σ1 := σ) rfl ?_
  refine tw_cl1 rfl (rfl) (by omega) (tw_m_exF (q := e) (by omega) (by repeat (first | exact tw_upd_at | assumption | rw [tw_upd_off (by omega)]))) ?_
  rintro _ _ ⟨rfl, rfl⟩
  show tw_P L xs _ 193 162 [.ref 88, v1, .int (nI nd), v3, .int b4] [] σ _
  refine tw_sg 7 (i1 := 169) (ls1 := [.ref 88, v1, .int (nI nd), v3, .int b4]) (st1 := [.int (nI nd)]) (σ1 := (tw_upd σ 88 20 ((σ 88 20) - nI 1))) rfl ?_
  refine tw_ri rfl (rfl) ?_
  exact hQ _ _ ⟨⟨_, rfl⟩, by repeat (first | exact tw_upd_at | assumption | rw [tw_upd_off (by omega)]), by repeat (first | exact tw_mFr.rf | refine tw_mFr.upd ?_ (by omega))⟩
set_option maxHeartbeats 4000000 in
set_option maxRecDepth 100000 in
theorem tw_m147F {Q : Option Value → tw_Mem → Prop} {f c nd e : Nat} {w b4 : Int32} {v1 v3 : Value} (hb : b4 = tw_bl (¬ tw_pair c)) (hnd : nd < 80) (h3 : σ 88 19 = nI e) (he : e ≤ 100) (hQ : ∀ v τ, tw_mpF e σ v τ → Q v τ) : tw_P L xs (f + 5) 193 147 [.ref 88, v1, .int (nI nd), v3, .int b4] [.int w, .int (nI nd), .ref 106] σ Q := by
  by_cases hx : tw_pair c
  · skip
    refine tw_as (k := 106) (j := nd) (len := 80) rfl rfl rfl (rfl) (by omega) (by decide) ?_
    refine tw_sg 1 (i1 := 149) (ls1 := [.ref 88, v1, .int (nI nd), v3, .int b4]) (st1 := [.int b4]) (σ1 := (tw_upd σ 106 nd w)) rfl ?_
    refine tw_bzF (c := .ne) rfl (by rw [tw_cne'] <;> (exact (by rw [hb, tw_blF (fun g => g hx)]))) ?_
    show tw_P L xs _ 193 150 [.ref 88, v1, .int (nI nd), v3, .int b4] [] (tw_upd σ 106 nd w) _
    refine tw_sg 2 (i1 := 152) (ls1 := [.ref 88, v1, .int (nI nd), v3, .int b4]) (st1 := [.int (nI 44), .ref 88]) (σ1 := (tw_upd σ 106 nd w)) rfl ?_
    refine tw_cl1 rfl (rfl) (by omega) (tw_m_exF (q := e) (by omega) (by repeat (first | exact tw_upd_at | assumption | rw [tw_upd_off (by omega)]))) ?_
    rintro _ _ ⟨rfl, rfl⟩
    show tw_P L xs _ 193 153 [.ref 88, v1, .int (nI nd), v3, .int b4] [] (tw_upd σ 106 nd w) _
    refine tw_sg 4 (i1 := 157) (ls1 := [.ref 88, v1, .int (nI nd), v3, .int b4]) (st1 := [.ref 88, .int (nI nd), .ref 107]) (σ1 := (tw_upd σ 106 nd w)) rfl ?_
    refine tw_cl1 rfl (rfl) (by omega) (tw_m_rlF (d := f) (e := e) (by repeat (first | exact tw_upd_at | assumption | rw [tw_upd_off (by omega)])) (by omega)) ?_
    rintro _ _ ⟨rfl, rfl⟩
    show tw_P L xs _ 193 158 [.ref 88, v1, .int (nI nd), v3, .int b4] [.int (nI 0), .int (nI nd), .ref 107] (tw_upd σ 106 nd w) _
    refine tw_as (k := 107) (j := nd) (len := 80) rfl rfl rfl (rfl) (by omega) (by decide) ?_
    exact tw_m159F (by repeat (first | exact tw_upd_at | assumption | rw [tw_upd_off (by omega)])) he (fun v τ h => hQ v τ ⟨h.1, h.2.1, tw_mFr.tr (by repeat (first | exact tw_mFr.rf | refine tw_mFr.upd ?_ (by omega))) h.2.2⟩)
  · skip
    refine tw_as (k := 106) (j := nd) (len := 80) rfl rfl rfl (rfl) (by omega) (by decide) ?_
    refine tw_sg 1 (i1 := 149) (ls1 := [.ref 88, v1, .int (nI nd), v3, .int b4]) (st1 := [.int b4]) (σ1 := (tw_upd σ 106 nd w)) rfl ?_
    refine tw_bzT (c := .ne) rfl (by rw [tw_cne] <;> (exact (by rw [hb, tw_blT hx]; decide))) ?_
    show tw_P L xs _ 193 159 [.ref 88, v1, .int (nI nd), v3, .int b4] [] (tw_upd σ 106 nd w) _
    exact tw_m159F (by repeat (first | exact tw_upd_at | assumption | rw [tw_upd_off (by omega)])) he (fun v τ h => hQ v τ ⟨h.1, h.2.1, tw_mFr.tr (by repeat (first | exact tw_mFr.rf | refine tw_mFr.upd ?_ (by omega))) h.2.2⟩)
set_option maxHeartbeats 4000000 in
set_option maxRecDepth 100000 in
theorem tw_m132F {Q : Option Value → tw_Mem → Prop} {f c q nd e : Nat} {b4 : Int32} {v1 v3 : Value} (hb : b4 = tw_bl (¬ tw_pair c)) (hnd : nd < 80) (h3 : σ 88 19 = nI e) (he : e ≤ 100) (hQ : ∀ v τ, tw_mpF e σ v τ → Q v τ) : tw_P L xs (f + 5) 193 132 [.ref 88, v1, .int (nI nd), v3, .int b4] [.int (nI q), .int (nI nd), .ref 105] σ Q := by
  refine tw_as (k := 105) (j := nd) (len := 80) rfl rfl rfl (rfl) (by omega) (by decide) ?_
  refine tw_sg 2 (i1 := 135) (ls1 := [.ref 88, v1, .int (nI nd), v3, .int b4]) (st1 := [.int (nI 40), .ref 88]) (σ1 := (tw_upd σ 105 nd (nI q))) rfl ?_
  refine tw_cl1 rfl (rfl) (by omega) (tw_m_exF (q := e) (by omega) (by repeat (first | exact tw_upd_at | assumption | rw [tw_upd_off (by omega)]))) ?_
  rintro _ _ ⟨rfl, rfl⟩
  show tw_P L xs _ 193 136 [.ref 88, v1, .int (nI nd), v3, .int b4] [] (tw_upd σ 105 nd (nI q)) _
  refine tw_sg 10 (i1 := 146) (ls1 := [.ref 88, v1, .int (nI nd), v3, .int b4]) (st1 := [.ref 88, .int (nI nd), .ref 106]) (σ1 := (tw_upd (tw_upd σ 105 nd (nI q)) 88 20 ((σ 88 20) + nI 1))) rfl ?_
  refine tw_cl1 rfl (rfl) (by omega) (tw_m_rlF (d := f) (e := e) (by repeat (first | exact tw_upd_at | assumption | rw [tw_upd_off (by omega)])) (by omega)) ?_
  rintro _ _ ⟨rfl, rfl⟩
  show tw_P L xs _ 193 147 [.ref 88, v1, .int (nI nd), v3, .int b4] [.int (nI 0), .int (nI nd), .ref 106] (tw_upd (tw_upd σ 105 nd (nI q)) 88 20 ((σ 88 20) + nI 1)) _
  exact tw_m147F hb hnd (by repeat (first | exact tw_upd_at | assumption | rw [tw_upd_off (by omega)])) he (fun v τ h => hQ v τ ⟨h.1, h.2.1, tw_mFr.tr (by repeat (first | exact tw_mFr.rf | refine tw_mFr.upd ?_ (by omega))) h.2.2⟩)
set_option maxHeartbeats 4000000 in
set_option maxRecDepth 100000 in
theorem tw_m159a {ch : Nat → Nat} {Q : Option Value → tw_Mem → Prop} {k f op nd : Nat} {p nd2 lv : Nat} {b4 : Int32} {v1 v3 : Value} (hC : tw_chs ch k) (hS : tw_mS ch k σ p nd2 lv (op + 1)) (hp : p ≤ 80) (hx : ¬ ch p = 41) (hQ : ∀ v τ, tw_mpF p σ v τ → Q v τ) : tw_P L xs (f + 5) 193 159 [.ref 88, v1, .int (nI nd), v3, .int b4] [] σ Q := by
  obtain ⟨hT, h2, h3, hop, h4, h5⟩ := id hS
  refine tw_sg 2 (i1 := 161) (ls1 := [.ref 88, v1, .int (nI nd), v3, .int b4]) (st1 := [.int (nI 41), .ref 88]) (σ1 := σ) rfl ?_
  refine tw_cl1 rfl (rfl) (by omega) (tw_m_ex0 (p := p) hC (by repeat (first | exact hT | refine tw_mT.upd ?_ (by omega) (by omega))) (by repeat (first | exact tw_upd_at | assumption | rw [tw_upd_off (by omega)])) (by omega) (by repeat (first | exact tw_upd_at | assumption | rw [tw_upd_off (by omega)])) (by decide) hx) ?_
  rintro _ _ ⟨rfl, rfl⟩
  show tw_P L xs _ 193 162 [.ref 88, v1, .int (nI nd), v3, .int b4] [] (tw_upd σ 88 19 (nI p)) _
  refine tw_sgn 7 (i1 := 169) (ls0 := [.ref 88, v1, .int (nI nd), v3, .int b4]) (st0 := [.int (nI nd)]) (σ0 := (tw_upd (tw_upd σ 88 19 (nI p)) 88 20 ((σ 88 20) - nI 1))) (ls1 := [.ref 88, v1, .int (nI nd), v3, .int b4]) (st1 := [.int (nI nd)]) (σ1 := (tw_upd (tw_upd σ 88 19 (nI p)) 88 20 (nI op))) rfl (rfl) (rfl) (by simp only [hop, tw_nsub (show 1 ≤ op + 1 by omega), Nat.add_sub_cancel, tw_nadd, tw_nmul]) ?_
  refine tw_ri rfl (rfl) ?_
  exact hQ _ _ ⟨⟨_, rfl⟩, by repeat (first | exact tw_upd_at | assumption | rw [tw_upd_off (by omega)]), by repeat (first | exact tw_mFr.rf | refine tw_mFr.upd ?_ (by omega))⟩
set_option maxHeartbeats 4000000 in
set_option maxRecDepth 100000 in
theorem tw_m159b {ch : Nat → Nat} {Q : Option Value → tw_Mem → Prop} {k f op nd : Nat} {p nd2 lv : Nat} {b4 : Int32} {v1 v3 : Value} (hC : tw_chs ch k) (hS : tw_mS ch k σ p nd2 lv (op + 1)) (hp : p ≤ 80) (hx : ch p = 41) (hQ : Q (some (.int (nI nd))) (tw_upd (tw_upd σ 88 18 (nI (p + 1))) 88 20 (nI op))) : tw_P L xs (f + 5) 193 159 [.ref 88, v1, .int (nI nd), v3, .int b4] [] σ Q := by
  obtain ⟨hT, h2, h3, hop, h4, h5⟩ := id hS
  refine tw_sg 2 (i1 := 161) (ls1 := [.ref 88, v1, .int (nI nd), v3, .int b4]) (st1 := [.int (nI 41), .ref 88]) (σ1 := σ) rfl ?_
  refine tw_cl1 rfl (rfl) (by omega) (tw_m_ex1 (p := p) hC (by repeat (first | exact hT | refine tw_mT.upd ?_ (by omega) (by omega))) (by repeat (first | exact tw_upd_at | assumption | rw [tw_upd_off (by omega)])) (by omega) (by repeat (first | exact tw_upd_at | assumption | rw [tw_upd_off (by omega)])) (by decide) hx) ?_
  rintro _ _ ⟨rfl, rfl⟩
  show tw_P L xs _ 193 162 [.ref 88, v1, .int (nI nd), v3, .int b4] [] (tw_upd σ 88 18 (nI (p + 1))) _
  refine tw_sgn 7 (i1 := 169) (ls0 := [.ref 88, v1, .int (nI nd), v3, .int b4]) (st0 := [.int (nI nd)]) (σ0 := (tw_upd (tw_upd σ 88 18 (nI (p + 1))) 88 20 ((σ 88 20) - nI 1))) (ls1 := [.ref 88, v1, .int (nI nd), v3, .int b4]) (st1 := [.int (nI nd)]) (σ1 := (tw_upd (tw_upd σ 88 18 (nI (p + 1))) 88 20 (nI op))) rfl (rfl) (rfl) (by simp only [hop, tw_nsub (show 1 ≤ op + 1 by omega), Nat.add_sub_cancel, tw_nadd, tw_nmul]) ?_
  refine tw_ri rfl (rfl) ?_
  exact hQ
def tw_m147S (ch : Nat → Nat) (k : Nat) (σ τ : tw_Mem) (c q nd p nd2 lv op : Nat) (K1 : Nat → Nat → Nat) : Prop := tw_mS ch k τ p nd2 lv (op + 1) ∧ tw_mFr σ τ ∧ tw_lo 104 nd σ τ ∧ τ 104 nd = nI c ∧ τ 105 nd = nI q ∧ tw_hk 104 K1 (nd + 1) nd2 τ
set_option maxHeartbeats 4000000 in
set_option maxRecDepth 100000 in
theorem tw_m147a {ch : Nat → Nat} {Q : Option Value → tw_Mem → Prop} {k f op c q nd : Nat} {α : tw_Mem} {b4 : Int32} {v1 v3 : Value} {K1 : Nat → Nat → Nat} {p nd2 lv : Nat} (hC : tw_chs ch k) (hp : p ≤ 80) (hnd : nd < nd2) (hn2 : nd2 ≤ 80) (hb : b4 = tw_bl (¬ tw_pair c)) (hZ : tw_m147S ch k α σ c q nd p nd2 lv op K1) (hx : ¬ tw_pair c) (hy : ¬ ch p = 41) (hQ : ∀ v τ, tw_mpF p α v τ → Q v τ) : tw_P L xs (f + 5) 193 147 [.ref 88, v1, .int (nI nd), v3, .int b4] [.int (nI (nd + 1)), .int (nI nd), .ref 106] σ Q := by
  obtain ⟨hS, z1, z2, z3, z4, z5⟩ := id hZ
  obtain ⟨hT, h2, h3, hop, h4, h5⟩ := id hS
  refine tw_as (k := 106) (j := nd) (len := 80) rfl rfl rfl (rfl) (by omega) (by decide) ?_
  refine tw_sg 1 (i1 := 149) (ls1 := [.ref 88, v1, .int (nI nd), v3, .int b4]) (st1 := [.int b4]) (σ1 := (tw_upd σ 106 nd (nI (nd + 1)))) rfl ?_
  refine tw_bzT (c := .ne) rfl (by rw [tw_cne] <;> (exact (by rw [hb, tw_blT hx]; decide))) ?_
  show tw_P L xs _ 193 159 [.ref 88, v1, .int (nI nd), v3, .int b4] [] (tw_upd σ 106 nd (nI (nd + 1))) _
  exact tw_m159a (nd2 := nd2) (lv := lv) hC ⟨by repeat (first | exact hT | refine tw_mT.upd ?_ (by omega) (by omega)), by repeat (first | exact tw_upd_at | assumption | rw [tw_upd_off (by omega)]), by repeat (first | exact tw_upd_at | assumption | rw [tw_upd_off (by omega)]), by repeat (first | exact tw_upd_at | assumption | rw [tw_upd_off (by omega)]), by repeat (first | exact tw_upd_at | assumption | rw [tw_upd_off (by omega)]), by repeat (first | exact tw_upd_at | assumption | rw [tw_upd_off (by omega)])⟩ hp hy (fun v τ h => hQ v τ ⟨h.1, h.2.1, tw_mFr.tr z1 (tw_mFr.tr (by repeat (first | exact tw_mFr.rf | refine tw_mFr.upd ?_ (by omega))) h.2.2)⟩)
set_option maxHeartbeats 4000000 in
set_option maxRecDepth 100000 in
theorem tw_m147b {ch : Nat → Nat} {Q : Option Value → tw_Mem → Prop} {k f op c q nd : Nat} {α : tw_Mem} {b4 : Int32} {v1 v3 : Value} {K1 : Nat → Nat → Nat} {p nd2 lv : Nat} (hC : tw_chs ch k) (hp : p ≤ 80) (hnd : nd < nd2) (hn2 : nd2 ≤ 80) (hb : b4 = tw_bl (¬ tw_pair c)) (hZ : tw_m147S ch k α σ c q nd p nd2 lv op K1) (hx : ¬ tw_pair c) (hy : ch p = 41) (hQ : ∀ v τ, tw_mpO ch k α nd (tw_kn c q (nd + 1) 0 nd nd2 K1 K1) (p + 1) nd2 lv op v τ → Q v τ) : tw_P L xs (f + 5) 193 147 [.ref 88, v1, .int (nI nd), v3, .int b4] [.int (nI (nd + 1)), .int (nI nd), .ref 106] σ Q := by
  obtain ⟨hS, z1, z2, z3, z4, z5⟩ := id hZ
  obtain ⟨hT, h2, h3, hop, h4, h5⟩ := id hS
  refine tw_as (k := 106) (j := nd) (len := 80) rfl rfl rfl (rfl) (by omega) (by decide) ?_
  refine tw_sg 1 (i1 := 149) (ls1 := [.ref 88, v1, .int (nI nd), v3, .int b4]) (st1 := [.int b4]) (σ1 := (tw_upd σ 106 nd (nI (nd + 1)))) rfl ?_
  refine tw_bzT (c := .ne) rfl (by rw [tw_cne] <;> (exact (by rw [hb, tw_blT hx]; decide))) ?_
  show tw_P L xs _ 193 159 [.ref 88, v1, .int (nI nd), v3, .int b4] [] (tw_upd σ 106 nd (nI (nd + 1))) _
  refine tw_m159b (nd2 := nd2) (lv := lv) hC ⟨by repeat (first | exact hT | refine tw_mT.upd ?_ (by omega) (by omega)), by repeat (first | exact tw_upd_at | assumption | rw [tw_upd_off (by omega)]), by repeat (first | exact tw_upd_at | assumption | rw [tw_upd_off (by omega)]), by repeat (first | exact tw_upd_at | assumption | rw [tw_upd_off (by omega)]), by repeat (first | exact tw_upd_at | assumption | rw [tw_upd_off (by omega)]), by repeat (first | exact tw_upd_at | assumption | rw [tw_upd_off (by omega)])⟩ hp hy ?_
  refine hQ _ _ ⟨rfl, ⟨by repeat (first | exact hT | refine tw_mT.upd ?_ (by omega) (by omega)), by repeat (first | exact tw_upd_at | assumption | rw [tw_upd_off (by omega)]), by repeat (first | exact tw_upd_at | assumption | rw [tw_upd_off (by omega)]), by repeat (first | exact tw_upd_at | assumption | rw [tw_upd_off (by omega)]), by repeat (first | exact tw_upd_at | assumption | rw [tw_upd_off (by omega)]), by repeat (first | exact tw_upd_at | assumption | rw [tw_upd_off (by omega)])⟩, tw_mFr.tr z1 (by repeat (first | exact tw_mFr.rf | refine tw_mFr.upd ?_ (by omega))), tw_lo.tr (nd2 := nd) z2 (by repeat (first | exact tw_lo.rf | refine tw_lo.upd ?_ (by omega))) (Nat.le_refl _), ?_⟩
  refine tw_hk.node (by repeat (first | exact z5 | refine tw_hk.upd ?_ (by omega))) tw_hk.none hnd (by repeat (first | exact tw_upd_at | assumption | rw [tw_upd_off (by omega)])) (by repeat (first | exact tw_upd_at | assumption | rw [tw_upd_off (by omega)])) (by repeat (first | exact tw_upd_at | assumption | rw [tw_upd_off (by omega)])) (fun h => absurd h hx)
set_option maxHeartbeats 4000000 in
set_option maxRecDepth 100000 in
theorem tw_m147c {ch : Nat → Nat} {Q : Option Value → tw_Mem → Prop} {k f op c q nd : Nat} {α : tw_Mem} {b4 : Int32} {v1 v3 : Value} {K1 : Nat → Nat → Nat} {p nd2 lv : Nat} (hC : tw_chs ch k) (hp : p ≤ 80) (hnd : nd < nd2) (hn2 : nd2 ≤ 80) (hb : b4 = tw_bl (¬ tw_pair c)) (hZ : tw_m147S ch k α σ c q nd p nd2 lv op K1) (hx : tw_pair c) (hy : ¬ ch p = 44) (hQ : ∀ v τ, tw_mpF p α v τ → Q v τ) : tw_P L xs (f + 5) 193 147 [.ref 88, v1, .int (nI nd), v3, .int b4] [.int (nI (nd + 1)), .int (nI nd), .ref 106] σ Q := by
  obtain ⟨hS, z1, z2, z3, z4, z5⟩ := id hZ
  obtain ⟨hT, h2, h3, hop, h4, h5⟩ := id hS
  refine tw_as (k := 106) (j := nd) (len := 80) rfl rfl rfl (rfl) (by omega) (by decide) ?_
  refine tw_sg 1 (i1 := 149) (ls1 := [.ref 88, v1, .int (nI nd), v3, .int b4]) (st1 := [.int b4]) (σ1 := (tw_upd σ 106 nd (nI (nd + 1)))) rfl ?_
  refine tw_bzF (c := .ne) rfl (by rw [tw_cne'] <;> (exact (by rw [hb, tw_blF (fun g => g hx)]))) ?_
  show tw_P L xs _ 193 150 [.ref 88, v1, .int (nI nd), v3, .int b4] [] (tw_upd σ 106 nd (nI (nd + 1))) _
  refine tw_sg 2 (i1 := 152) (ls1 := [.ref 88, v1, .int (nI nd), v3, .int b4]) (st1 := [.int (nI 44), .ref 88]) (σ1 := (tw_upd σ 106 nd (nI (nd + 1)))) rfl ?_
  refine tw_cl1 rfl (rfl) (by omega) (tw_m_ex0 (p := p) hC (by repeat (first | exact hT | refine tw_mT.upd ?_ (by omega) (by omega))) (by repeat (first | exact tw_upd_at | assumption | rw [tw_upd_off (by omega)])) (by omega) (by repeat (first | exact tw_upd_at | assumption | rw [tw_upd_off (by omega)])) (by decide) hy) ?_
  rintro _ _ ⟨rfl, rfl⟩
  show tw_P L xs _ 193 153 [.ref 88, v1, .int (nI nd), v3, .int b4] [] (tw_upd (tw_upd σ 106 nd (nI (nd + 1))) 88 19 (nI p)) _
  refine tw_sg 4 (i1 := 157) (ls1 := [.ref 88, v1, .int (nI nd), v3, .int b4]) (st1 := [.ref 88, .int (nI nd), .ref 107]) (σ1 := (tw_upd (tw_upd σ 106 nd (nI (nd + 1))) 88 19 (nI p))) rfl ?_
  refine tw_cl1 rfl (rfl) (by omega) (tw_m_rlF (d := f) (e := p) (by repeat (first | exact tw_upd_at | assumption | rw [tw_upd_off (by omega)])) (by omega)) ?_
  rintro _ _ ⟨rfl, rfl⟩
  show tw_P L xs _ 193 158 [.ref 88, v1, .int (nI nd), v3, .int b4] [.int (nI 0), .int (nI nd), .ref 107] (tw_upd (tw_upd σ 106 nd (nI (nd + 1))) 88 19 (nI p)) _
  refine tw_as (k := 107) (j := nd) (len := 80) rfl rfl rfl (rfl) (by omega) (by decide) ?_
  exact tw_m159F (by repeat (first | exact tw_upd_at | assumption | rw [tw_upd_off (by omega)])) (by omega) (fun v τ h => hQ v τ ⟨h.1, h.2.1, tw_mFr.tr z1 (tw_mFr.tr (by repeat (first | exact tw_mFr.rf | refine tw_mFr.upd ?_ (by omega))) h.2.2)⟩)
set_option maxHeartbeats 4000000 in
set_option maxRecDepth 100000 in
theorem tw_m147d {ch : Nat → Nat} {Q : Option Value → tw_Mem → Prop} {k f op c q nd e : Nat} {α : tw_Mem} {b4 : Int32} {v1 v3 : Value} {K1 : Nat → Nat → Nat} {p nd2 lv : Nat} (hC : tw_chs ch k) (hp : p ≤ 80) (hnd : nd < nd2) (hn2 : nd2 ≤ 80) (hb : b4 = tw_bl (¬ tw_pair c)) (hZ : tw_m147S ch k α σ c q nd p nd2 lv op K1) (hof : op + f = 6) (h0 : 1 ≤ f) (hx : tw_pair c) (hy : ch p = 44) (he : e ≤ 100) (hR : tw_mRF L xs ch k (f - 1) (p + 1) nd2 lv e) (hQ : ∀ v τ, tw_mpF e α v τ → Q v τ) : tw_P L xs (f + 5) 193 147 [.ref 88, v1, .int (nI nd), v3, .int b4] [.int (nI (nd + 1)), .int (nI nd), .ref 106] σ Q := by
  obtain ⟨hS, z1, z2, z3, z4, z5⟩ := id hZ
  obtain ⟨hT, h2, h3, hop, h4, h5⟩ := id hS
  refine tw_as (k := 106) (j := nd) (len := 80) rfl rfl rfl (rfl) (by omega) (by decide) ?_
  refine tw_sg 1 (i1 := 149) (ls1 := [.ref 88, v1, .int (nI nd), v3, .int b4]) (st1 := [.int b4]) (σ1 := (tw_upd σ 106 nd (nI (nd + 1)))) rfl ?_
  refine tw_bzF (c := .ne) rfl (by rw [tw_cne'] <;> (exact (by rw [hb, tw_blF (fun g => g hx)]))) ?_
  show tw_P L xs _ 193 150 [.ref 88, v1, .int (nI nd), v3, .int b4] [] (tw_upd σ 106 nd (nI (nd + 1))) _
  refine tw_sg 2 (i1 := 152) (ls1 := [.ref 88, v1, .int (nI nd), v3, .int b4]) (st1 := [.int (nI 44), .ref 88]) (σ1 := (tw_upd σ 106 nd (nI (nd + 1)))) rfl ?_
  refine tw_cl1 rfl (rfl) (by omega) (tw_m_ex1 (p := p) hC (by repeat (first | exact hT | refine tw_mT.upd ?_ (by omega) (by omega))) (by repeat (first | exact tw_upd_at | assumption | rw [tw_upd_off (by omega)])) (by omega) (by repeat (first | exact tw_upd_at | assumption | rw [tw_upd_off (by omega)])) (by decide) hy) ?_
  rintro _ _ ⟨rfl, rfl⟩
  show tw_P L xs _ 193 153 [.ref 88, v1, .int (nI nd), v3, .int b4] [] (tw_upd (tw_upd σ 106 nd (nI (nd + 1))) 88 18 (nI (p + 1))) _
  refine tw_sg 4 (i1 := 157) (ls1 := [.ref 88, v1, .int (nI nd), v3, .int b4]) (st1 := [.ref 88, .int (nI nd), .ref 107]) (σ1 := (tw_upd (tw_upd σ 106 nd (nI (nd + 1))) 88 18 (nI (p + 1)))) rfl ?_
  refine tw_cl1 rfl (rfl) (by omega) (hR ((tw_upd (tw_upd σ 106 nd (nI (nd + 1))) 88 18 (nI (p + 1)))) (op + 1) (by omega) ⟨by repeat (first | exact hT | refine tw_mT.upd ?_ (by omega) (by omega)), by repeat (first | exact tw_upd_at | assumption | rw [tw_upd_off (by omega)]), by repeat (first | exact tw_upd_at | assumption | rw [tw_upd_off (by omega)]), by repeat (first | exact tw_upd_at | assumption | rw [tw_upd_off (by omega)]), by repeat (first | exact tw_upd_at | assumption | rw [tw_upd_off (by omega)]), by repeat (first | exact tw_upd_at | assumption | rw [tw_upd_off (by omega)])⟩) ?_
  rintro _ τ ⟨⟨w, rfl⟩, hf, hr⟩
  show tw_P L xs _ 193 158 [.ref 88, v1, .int (nI nd), v3, .int b4] [.int w, .int (nI nd), .ref 107] τ _
  refine tw_as (k := 107) (j := nd) (len := 80) rfl rfl rfl (rfl) (by omega) (by decide) ?_
  exact tw_m159F (by repeat (first | exact tw_upd_at | assumption | rw [tw_upd_off (by omega)])) he (fun v υ h => hQ v υ ⟨h.1, h.2.1, tw_mFr.tr z1 (tw_mFr.tr (by repeat (first | exact tw_mFr.rf | refine tw_mFr.upd ?_ (by omega))) (tw_mFr.tr hr (tw_mFr.tr (by repeat (first | exact tw_mFr.rf | refine tw_mFr.upd ?_ (by omega))) h.2.2)))⟩)
set_option maxHeartbeats 4000000 in
set_option maxRecDepth 100000 in
theorem tw_m147e {ch : Nat → Nat} {Q : Option Value → tw_Mem → Prop} {k f op c q nd : Nat} {α : tw_Mem} {b4 : Int32} {v1 v3 : Value} {K1 : Nat → Nat → Nat} {p nd2 lv : Nat} (hC : tw_chs ch k) (hp : p ≤ 80) (hnd : nd < nd2) (hn2 : nd2 ≤ 80) (hb : b4 = tw_bl (¬ tw_pair c)) (hZ : tw_m147S ch k α σ c q nd p nd2 lv op K1) {K2 : Nat → Nat → Nat} {p3 nd3 lv3 : Nat} (hof : op + f = 6) (h0 : 1 ≤ f) (hx : tw_pair c) (hy : ch p = 44) (hp3 : p3 ≤ 80) (hn3 : nd2 ≤ nd3) (hn3b : nd3 ≤ 80) (hR : tw_mRO L xs ch k (f - 1) (p + 1) nd2 lv p3 nd3 lv3 K2) (hw : ¬ ch p3 = 41) (hQ : ∀ v τ, tw_mpF p3 α v τ → Q v τ) : tw_P L xs (f + 5) 193 147 [.ref 88, v1, .int (nI nd), v3, .int b4] [.int (nI (nd + 1)), .int (nI nd), .ref 106] σ Q := by
  obtain ⟨hS, z1, z2, z3, z4, z5⟩ := id hZ
  obtain ⟨hT, h2, h3, hop, h4, h5⟩ := id hS
  refine tw_as (k := 106) (j := nd) (len := 80) rfl rfl rfl (rfl) (by omega) (by decide) ?_
  refine tw_sg 1 (i1 := 149) (ls1 := [.ref 88, v1, .int (nI nd), v3, .int b4]) (st1 := [.int b4]) (σ1 := (tw_upd σ 106 nd (nI (nd + 1)))) rfl ?_
  refine tw_bzF (c := .ne) rfl (by rw [tw_cne'] <;> (exact (by rw [hb, tw_blF (fun g => g hx)]))) ?_
  show tw_P L xs _ 193 150 [.ref 88, v1, .int (nI nd), v3, .int b4] [] (tw_upd σ 106 nd (nI (nd + 1))) _
  refine tw_sg 2 (i1 := 152) (ls1 := [.ref 88, v1, .int (nI nd), v3, .int b4]) (st1 := [.int (nI 44), .ref 88]) (σ1 := (tw_upd σ 106 nd (nI (nd + 1)))) rfl ?_
  refine tw_cl1 rfl (rfl) (by omega) (tw_m_ex1 (p := p) hC (by repeat (first | exact hT | refine tw_mT.upd ?_ (by omega) (by omega))) (by repeat (first | exact tw_upd_at | assumption | rw [tw_upd_off (by omega)])) (by omega) (by repeat (first | exact tw_upd_at | assumption | rw [tw_upd_off (by omega)])) (by decide) hy) ?_
  rintro _ _ ⟨rfl, rfl⟩
  show tw_P L xs _ 193 153 [.ref 88, v1, .int (nI nd), v3, .int b4] [] (tw_upd (tw_upd σ 106 nd (nI (nd + 1))) 88 18 (nI (p + 1))) _
  refine tw_sg 4 (i1 := 157) (ls1 := [.ref 88, v1, .int (nI nd), v3, .int b4]) (st1 := [.ref 88, .int (nI nd), .ref 107]) (σ1 := (tw_upd (tw_upd σ 106 nd (nI (nd + 1))) 88 18 (nI (p + 1)))) rfl ?_
  refine tw_cl1 rfl (rfl) (by omega) (hR ((tw_upd (tw_upd σ 106 nd (nI (nd + 1))) 88 18 (nI (p + 1)))) (op + 1) (by omega) ⟨by repeat (first | exact hT | refine tw_mT.upd ?_ (by omega) (by omega)), by repeat (first | exact tw_upd_at | assumption | rw [tw_upd_off (by omega)]), by repeat (first | exact tw_upd_at | assumption | rw [tw_upd_off (by omega)]), by repeat (first | exact tw_upd_at | assumption | rw [tw_upd_off (by omega)]), by repeat (first | exact tw_upd_at | assumption | rw [tw_upd_off (by omega)]), by repeat (first | exact tw_upd_at | assumption | rw [tw_upd_off (by omega)])⟩) ?_
  rintro _ τ ⟨rfl, hS2, hr, hl, hk2⟩
  show tw_P L xs _ 193 158 [.ref 88, v1, .int (nI nd), v3, .int b4] [.int (nI nd2), .int (nI nd), .ref 107] τ _
  refine tw_as (k := 107) (j := nd) (len := 80) rfl rfl rfl (rfl) (by omega) (by decide) ?_
  obtain ⟨hT, y2, y3, y1, y4, y5⟩ := id hS2
  exact tw_m159a (nd2 := nd3) (lv := lv3) hC ⟨by repeat (first | exact hT | refine tw_mT.upd ?_ (by omega) (by omega)), by repeat (first | exact tw_upd_at | assumption | rw [tw_upd_off (by omega)]), by repeat (first | exact tw_upd_at | assumption | rw [tw_upd_off (by omega)]), by repeat (first | exact tw_upd_at | assumption | rw [tw_upd_off (by omega)]), by repeat (first | exact tw_upd_at | assumption | rw [tw_upd_off (by omega)]), by repeat (first | exact tw_upd_at | assumption | rw [tw_upd_off (by omega)])⟩ hp3 hw (fun v υ h => hQ v υ ⟨h.1, h.2.1, tw_mFr.tr z1 (tw_mFr.tr (by repeat (first | exact tw_mFr.rf | refine tw_mFr.upd ?_ (by omega))) (tw_mFr.tr hr (tw_mFr.tr (by repeat (first | exact tw_mFr.rf | refine tw_mFr.upd ?_ (by omega))) h.2.2)))⟩)
set_option maxHeartbeats 4000000 in
set_option maxRecDepth 100000 in
theorem tw_m147f {ch : Nat → Nat} {Q : Option Value → tw_Mem → Prop} {k f op c q nd : Nat} {α : tw_Mem} {b4 : Int32} {v1 v3 : Value} {K1 : Nat → Nat → Nat} {p nd2 lv : Nat} (hC : tw_chs ch k) (hp : p ≤ 80) (hnd : nd < nd2) (hn2 : nd2 ≤ 80) (hb : b4 = tw_bl (¬ tw_pair c)) (hZ : tw_m147S ch k α σ c q nd p nd2 lv op K1) {K2 : Nat → Nat → Nat} {p3 nd3 lv3 : Nat} (hof : op + f = 6) (h0 : 1 ≤ f) (hx : tw_pair c) (hy : ch p = 44) (hp3 : p3 ≤ 80) (hn3 : nd2 ≤ nd3) (hn3b : nd3 ≤ 80) (hR : tw_mRO L xs ch k (f - 1) (p + 1) nd2 lv p3 nd3 lv3 K2) (hw : ch p3 = 41) (hQ : ∀ v τ, tw_mpO ch k α nd (tw_kn c q (nd + 1) nd2 nd nd2 K1 K2) (p3 + 1) nd3 lv3 op v τ → Q v τ) : tw_P L xs (f + 5) 193 147 [.ref 88, v1, .int (nI nd), v3, .int b4] [.int (nI (nd + 1)), .int (nI nd), .ref 106] σ Q := by
  obtain ⟨hS, z1, z2, z3, z4, z5⟩ := id hZ
  obtain ⟨hT, h2, h3, hop, h4, h5⟩ := id hS
  refine tw_as (k := 106) (j := nd) (len := 80) rfl rfl rfl (rfl) (by omega) (by decide) ?_
  refine tw_sg 1 (i1 := 149) (ls1 := [.ref 88, v1, .int (nI nd), v3, .int b4]) (st1 := [.int b4]) (σ1 := (tw_upd σ 106 nd (nI (nd + 1)))) rfl ?_
  refine tw_bzF (c := .ne) rfl (by rw [tw_cne'] <;> (exact (by rw [hb, tw_blF (fun g => g hx)]))) ?_
  show tw_P L xs _ 193 150 [.ref 88, v1, .int (nI nd), v3, .int b4] [] (tw_upd σ 106 nd (nI (nd + 1))) _
  refine tw_sg 2 (i1 := 152) (ls1 := [.ref 88, v1, .int (nI nd), v3, .int b4]) (st1 := [.int (nI 44), .ref 88]) (σ1 := (tw_upd σ 106 nd (nI (nd + 1)))) rfl ?_
  refine tw_cl1 rfl (rfl) (by omega) (tw_m_ex1 (p := p) hC (by repeat (first | exact hT | refine tw_mT.upd ?_ (by omega) (by omega))) (by repeat (first | exact tw_upd_at | assumption | rw [tw_upd_off (by omega)])) (by omega) (by repeat (first | exact tw_upd_at | assumption | rw [tw_upd_off (by omega)])) (by decide) hy) ?_
  rintro _ _ ⟨rfl, rfl⟩
  show tw_P L xs _ 193 153 [.ref 88, v1, .int (nI nd), v3, .int b4] [] (tw_upd (tw_upd σ 106 nd (nI (nd + 1))) 88 18 (nI (p + 1))) _
  refine tw_sg 4 (i1 := 157) (ls1 := [.ref 88, v1, .int (nI nd), v3, .int b4]) (st1 := [.ref 88, .int (nI nd), .ref 107]) (σ1 := (tw_upd (tw_upd σ 106 nd (nI (nd + 1))) 88 18 (nI (p + 1)))) rfl ?_
  refine tw_cl1 rfl (rfl) (by omega) (hR ((tw_upd (tw_upd σ 106 nd (nI (nd + 1))) 88 18 (nI (p + 1)))) (op + 1) (by omega) ⟨by repeat (first | exact hT | refine tw_mT.upd ?_ (by omega) (by omega)), by repeat (first | exact tw_upd_at | assumption | rw [tw_upd_off (by omega)]), by repeat (first | exact tw_upd_at | assumption | rw [tw_upd_off (by omega)]), by repeat (first | exact tw_upd_at | assumption | rw [tw_upd_off (by omega)]), by repeat (first | exact tw_upd_at | assumption | rw [tw_upd_off (by omega)]), by repeat (first | exact tw_upd_at | assumption | rw [tw_upd_off (by omega)])⟩) ?_
  rintro _ τ ⟨rfl, hS2, hr, hl, hk2⟩
  show tw_P L xs _ 193 158 [.ref 88, v1, .int (nI nd), v3, .int b4] [.int (nI nd2), .int (nI nd), .ref 107] τ _
  refine tw_as (k := 107) (j := nd) (len := 80) rfl rfl rfl (rfl) (by omega) (by decide) ?_
  obtain ⟨hT, y2, y3, y1, y4, y5⟩ := id hS2
  refine tw_m159b (nd2 := nd3) (lv := lv3) hC ⟨by repeat (first | exact hT | refine tw_mT.upd ?_ (by omega) (by omega)), by repeat (first | exact tw_upd_at | assumption | rw [tw_upd_off (by omega)]), by repeat (first | exact tw_upd_at | assumption | rw [tw_upd_off (by omega)]), by repeat (first | exact tw_upd_at | assumption | rw [tw_upd_off (by omega)]), by repeat (first | exact tw_upd_at | assumption | rw [tw_upd_off (by omega)]), by repeat (first | exact tw_upd_at | assumption | rw [tw_upd_off (by omega)])⟩ hp3 hw ?_
  have l2 : ∀ i, i < 4 → ∀ j, j < nd2 → τ (104 + i) j = tw_upd σ 106 nd (nI (nd + 1)) (104 + i) j := fun i hi j hj => (hl i hi j hj).trans (tw_upd_off (by omega))
  have z5b : tw_hk 104 K1 (nd + 1) nd2 (tw_upd σ 106 nd (nI (nd + 1))) := tw_hk.upd z5 (by omega)
  refine hQ _ _ ⟨rfl, ⟨by repeat (first | exact hT | refine tw_mT.upd ?_ (by omega) (by omega)), by repeat (first | exact tw_upd_at | assumption | rw [tw_upd_off (by omega)]), by repeat (first | exact tw_upd_at | assumption | rw [tw_upd_off (by omega)]), by repeat (first | exact tw_upd_at | assumption | rw [tw_upd_off (by omega)]), by repeat (first | exact tw_upd_at | assumption | rw [tw_upd_off (by omega)]), by repeat (first | exact tw_upd_at | assumption | rw [tw_upd_off (by omega)])⟩, tw_mFr.tr z1 (tw_mFr.tr (by repeat (first | exact tw_mFr.rf | refine tw_mFr.upd ?_ (by omega))) (tw_mFr.tr hr (by repeat (first | exact tw_mFr.rf | refine tw_mFr.upd ?_ (by omega))))), ?_, ?_⟩
  · exact fun i hi j hj => by rw [tw_upd_off (by omega), tw_upd_off (by omega), tw_upd_off (by omega), l2 i hi j (by omega), tw_upd_off (by omega)]; exact z2 i hi j hj
  · refine tw_hk.node (tw_hk.upd (tw_hk.upd (tw_hk.upd (tw_hk.lo z5b l2 (by omega)) (by omega)) (by omega)) (by omega)) (by repeat (first | exact hk2 | refine tw_hk.upd ?_ (by omega))) hnd ?_ ?_ ?_ (fun _ => by repeat (first | exact tw_upd_at | assumption | rw [tw_upd_off (by omega)]))
    · rw [tw_upd_off (by omega), tw_upd_off (by omega), tw_upd_off (by omega)]; exact (l2 0 (by omega) nd hnd).trans ((tw_upd_off (by omega)).trans z3)
    · rw [tw_upd_off (by omega), tw_upd_off (by omega), tw_upd_off (by omega)]; exact (l2 1 (by omega) nd hnd).trans ((tw_upd_off (by omega)).trans z4)
    · rw [tw_upd_off (by omega), tw_upd_off (by omega), tw_upd_off (by omega)]; exact (l2 2 (by omega) nd hnd).trans tw_upd_at
set_option maxHeartbeats 4000000 in
set_option maxRecDepth 100000 in
theorem tw_m132a {ch : Nat → Nat} {Q : Option Value → tw_Mem → Prop} {k f op c q nd : Nat} {α : tw_Mem} {b4 : Int32} {v1 v3 : Value} {p lv : Nat} (hC : tw_chs ch k) (hp : p ≤ 80) (hnd : nd < 80) (hb : b4 = tw_bl (¬ tw_pair c)) (hS : tw_mS ch k σ p (nd + 1) lv op) (z1 : tw_mFr α σ) (z2 : tw_lo 104 nd α σ) (z3 : σ 104 nd = nI c) (hx : ¬ ch p = 40) (hQ : ∀ v τ, tw_mpF p α v τ → Q v τ) : tw_P L xs (f + 5) 193 132 [.ref 88, v1, .int (nI nd), v3, .int b4] [.int (nI q), .int (nI nd), .ref 105] σ Q := by
  obtain ⟨hT, h2, h3, hop, h4, h5⟩ := id hS
  refine tw_as (k := 105) (j := nd) (len := 80) rfl rfl rfl (rfl) (by omega) (by decide) ?_
  refine tw_sg 2 (i1 := 135) (ls1 := [.ref 88, v1, .int (nI nd), v3, .int b4]) (st1 := [.int (nI 40), .ref 88]) (σ1 := (tw_upd σ 105 nd (nI q))) rfl ?_
  refine tw_cl1 rfl (rfl) (by omega) (tw_m_ex0 (p := p) hC (by repeat (first | exact hT | refine tw_mT.upd ?_ (by omega) (by omega))) (by repeat (first | exact tw_upd_at | assumption | rw [tw_upd_off (by omega)])) (by omega) (by repeat (first | exact tw_upd_at | assumption | rw [tw_upd_off (by omega)])) (by decide) hx) ?_
  rintro _ _ ⟨rfl, rfl⟩
  show tw_P L xs _ 193 136 [.ref 88, v1, .int (nI nd), v3, .int b4] [] (tw_upd (tw_upd σ 105 nd (nI q)) 88 19 (nI p)) _
  refine tw_sgn 10 (i1 := 146) (ls0 := [.ref 88, v1, .int (nI nd), v3, .int b4]) (st0 := [.ref 88, .int (nI nd), .ref 106]) (σ0 := (tw_upd (tw_upd (tw_upd σ 105 nd (nI q)) 88 19 (nI p)) 88 20 ((σ 88 20) + nI 1))) (ls1 := [.ref 88, v1, .int (nI nd), v3, .int b4]) (st1 := [.ref 88, .int (nI nd), .ref 106]) (σ1 := (tw_upd (tw_upd (tw_upd σ 105 nd (nI q)) 88 19 (nI p)) 88 20 (nI (op + 1)))) rfl (rfl) (rfl) (by simp only [hop, tw_nadd, tw_nmul]) ?_
  refine tw_cl1 rfl (rfl) (by omega) (tw_m_rlF (d := f) (e := p) (by repeat (first | exact tw_upd_at | assumption | rw [tw_upd_off (by omega)])) (by omega)) ?_
  rintro _ _ ⟨rfl, rfl⟩
  show tw_P L xs _ 193 147 [.ref 88, v1, .int (nI nd), v3, .int b4] [.int (nI 0), .int (nI nd), .ref 106] (tw_upd (tw_upd (tw_upd σ 105 nd (nI q)) 88 19 (nI p)) 88 20 (nI (op + 1))) _
  exact tw_m147F hb hnd (by repeat (first | exact tw_upd_at | assumption | rw [tw_upd_off (by omega)])) (by omega) (fun v τ h => hQ v τ ⟨h.1, h.2.1, tw_mFr.tr z1 (tw_mFr.tr (by repeat (first | exact tw_mFr.rf | refine tw_mFr.upd ?_ (by omega))) h.2.2)⟩)
set_option maxHeartbeats 4000000 in
set_option maxRecDepth 100000 in
theorem tw_m132b {ch : Nat → Nat} {Q : Option Value → tw_Mem → Prop} {k f op c q nd e : Nat} {α : tw_Mem} {b4 : Int32} {v1 v3 : Value} {p lv : Nat} (hC : tw_chs ch k) (hp : p ≤ 80) (hnd : nd < 80) (hb : b4 = tw_bl (¬ tw_pair c)) (hS : tw_mS ch k σ p (nd + 1) lv op) (z1 : tw_mFr α σ) (z2 : tw_lo 104 nd α σ) (z3 : σ 104 nd = nI c) (hof : op + f = 6) (h0 : 1 ≤ f) (hx : ch p = 40) (he : e ≤ 100) (hR : tw_mRF L xs ch k (f - 1) (p + 1) (nd + 1) lv e) (hQ : ∀ v τ, tw_mpF e α v τ → Q v τ) : tw_P L xs (f + 5) 193 132 [.ref 88, v1, .int (nI nd), v3, .int b4] [.int (nI q), .int (nI nd), .ref 105] σ Q := by
  obtain ⟨hT, h2, h3, hop, h4, h5⟩ := id hS
  refine tw_as (k := 105) (j := nd) (len := 80) rfl rfl rfl (rfl) (by omega) (by decide) ?_
  refine tw_sg 2 (i1 := 135) (ls1 := [.ref 88, v1, .int (nI nd), v3, .int b4]) (st1 := [.int (nI 40), .ref 88]) (σ1 := (tw_upd σ 105 nd (nI q))) rfl ?_
  refine tw_cl1 rfl (rfl) (by omega) (tw_m_ex1 (p := p) hC (by repeat (first | exact hT | refine tw_mT.upd ?_ (by omega) (by omega))) (by repeat (first | exact tw_upd_at | assumption | rw [tw_upd_off (by omega)])) (by omega) (by repeat (first | exact tw_upd_at | assumption | rw [tw_upd_off (by omega)])) (by decide) hx) ?_
  rintro _ _ ⟨rfl, rfl⟩
  show tw_P L xs _ 193 136 [.ref 88, v1, .int (nI nd), v3, .int b4] [] (tw_upd (tw_upd σ 105 nd (nI q)) 88 18 (nI (p + 1))) _
  refine tw_sgn 10 (i1 := 146) (ls0 := [.ref 88, v1, .int (nI nd), v3, .int b4]) (st0 := [.ref 88, .int (nI nd), .ref 106]) (σ0 := (tw_upd (tw_upd (tw_upd σ 105 nd (nI q)) 88 18 (nI (p + 1))) 88 20 ((σ 88 20) + nI 1))) (ls1 := [.ref 88, v1, .int (nI nd), v3, .int b4]) (st1 := [.ref 88, .int (nI nd), .ref 106]) (σ1 := (tw_upd (tw_upd (tw_upd σ 105 nd (nI q)) 88 18 (nI (p + 1))) 88 20 (nI (op + 1)))) rfl (rfl) (rfl) (by simp only [hop, tw_nadd, tw_nmul]) ?_
  refine tw_cl1 rfl (rfl) (by omega) (hR ((tw_upd (tw_upd (tw_upd σ 105 nd (nI q)) 88 18 (nI (p + 1))) 88 20 (nI (op + 1)))) (op + 1) (by omega) ⟨by repeat (first | exact hT | refine tw_mT.upd ?_ (by omega) (by omega)), by repeat (first | exact tw_upd_at | assumption | rw [tw_upd_off (by omega)]), by repeat (first | exact tw_upd_at | assumption | rw [tw_upd_off (by omega)]), by repeat (first | exact tw_upd_at | assumption | rw [tw_upd_off (by omega)]), by repeat (first | exact tw_upd_at | assumption | rw [tw_upd_off (by omega)]), by repeat (first | exact tw_upd_at | assumption | rw [tw_upd_off (by omega)])⟩) ?_
  rintro _ τ ⟨⟨w, rfl⟩, hf, hr⟩
  show tw_P L xs _ 193 147 [.ref 88, v1, .int (nI nd), v3, .int b4] [.int w, .int (nI nd), .ref 106] τ _
  exact tw_m147F hb hnd hf he (fun v υ h => hQ v υ ⟨h.1, h.2.1, tw_mFr.tr z1 (tw_mFr.tr (by repeat (first | exact tw_mFr.rf | refine tw_mFr.upd ?_ (by omega))) (tw_mFr.tr hr h.2.2))⟩)
set_option maxHeartbeats 4000000 in
set_option maxRecDepth 100000 in
theorem tw_m132c {ch : Nat → Nat} {Q : Option Value → tw_Mem → Prop} {k f op c q nd : Nat} {α : tw_Mem} {b4 : Int32} {v1 v3 : Value} {p lv : Nat} (hC : tw_chs ch k) (hp : p ≤ 80) (hnd : nd < 80) (hb : b4 = tw_bl (¬ tw_pair c)) (hS : tw_mS ch k σ p (nd + 1) lv op) (z1 : tw_mFr α σ) (z2 : tw_lo 104 nd α σ) (z3 : σ 104 nd = nI c) {K1 : Nat → Nat → Nat} {p2 nd2 lv2 : Nat} (hof : op + f = 6) (h0 : 1 ≤ f) (hx : ch p = 40) (hR : tw_mRO L xs ch k (f - 1) (p + 1) (nd + 1) lv p2 nd2 lv2 K1) (hQ : ∀ τ, tw_m147S ch k α τ c q nd p2 nd2 lv2 op K1 → tw_P L xs (f + 5) 193 147 [.ref 88, v1, .int (nI nd), v3, .int b4] [.int (nI (nd + 1)), .int (nI nd), .ref 106] τ Q) : tw_P L xs (f + 5) 193 132 [.ref 88, v1, .int (nI nd), v3, .int b4] [.int (nI q), .int (nI nd), .ref 105] σ Q := by
  obtain ⟨hT, h2, h3, hop, h4, h5⟩ := id hS
  refine tw_as (k := 105) (j := nd) (len := 80) rfl rfl rfl (rfl) (by omega) (by decide) ?_
  refine tw_sg 2 (i1 := 135) (ls1 := [.ref 88, v1, .int (nI nd), v3, .int b4]) (st1 := [.int (nI 40), .ref 88]) (σ1 := (tw_upd σ 105 nd (nI q))) rfl ?_
  refine tw_cl1 rfl (rfl) (by omega) (tw_m_ex1 (p := p) hC (by repeat (first | exact hT | refine tw_mT.upd ?_ (by omega) (by omega))) (by repeat (first | exact tw_upd_at | assumption | rw [tw_upd_off (by omega)])) (by omega) (by repeat (first | exact tw_upd_at | assumption | rw [tw_upd_off (by omega)])) (by decide) hx) ?_
  rintro _ _ ⟨rfl, rfl⟩
  show tw_P L xs _ 193 136 [.ref 88, v1, .int (nI nd), v3, .int b4] [] (tw_upd (tw_upd σ 105 nd (nI q)) 88 18 (nI (p + 1))) _
  refine tw_sgn 10 (i1 := 146) (ls0 := [.ref 88, v1, .int (nI nd), v3, .int b4]) (st0 := [.ref 88, .int (nI nd), .ref 106]) (σ0 := (tw_upd (tw_upd (tw_upd σ 105 nd (nI q)) 88 18 (nI (p + 1))) 88 20 ((σ 88 20) + nI 1))) (ls1 := [.ref 88, v1, .int (nI nd), v3, .int b4]) (st1 := [.ref 88, .int (nI nd), .ref 106]) (σ1 := (tw_upd (tw_upd (tw_upd σ 105 nd (nI q)) 88 18 (nI (p + 1))) 88 20 (nI (op + 1)))) rfl (rfl) (rfl) (by simp only [hop, tw_nadd, tw_nmul]) ?_
  refine tw_cl1 rfl (rfl) (by omega) (hR ((tw_upd (tw_upd (tw_upd σ 105 nd (nI q)) 88 18 (nI (p + 1))) 88 20 (nI (op + 1)))) (op + 1) (by omega) ⟨by repeat (first | exact hT | refine tw_mT.upd ?_ (by omega) (by omega)), by repeat (first | exact tw_upd_at | assumption | rw [tw_upd_off (by omega)]), by repeat (first | exact tw_upd_at | assumption | rw [tw_upd_off (by omega)]), by repeat (first | exact tw_upd_at | assumption | rw [tw_upd_off (by omega)]), by repeat (first | exact tw_upd_at | assumption | rw [tw_upd_off (by omega)]), by repeat (first | exact tw_upd_at | assumption | rw [tw_upd_off (by omega)])⟩) ?_
  rintro _ τ ⟨rfl, hS2, hr, hl, hk2⟩
  show tw_P L xs _ 193 147 [.ref 88, v1, .int (nI nd), v3, .int b4] [.int (nI (nd + 1)), .int (nI nd), .ref 106] τ _
  refine hQ τ ⟨hS2, tw_mFr.tr z1 (tw_mFr.tr (by repeat (first | exact tw_mFr.rf | refine tw_mFr.upd ?_ (by omega))) hr), fun i hi j hj => (hl i hi j (by omega)).trans ?_, (hl 0 (by omega) nd (by omega)).trans (by repeat (first | exact tw_upd_at | assumption | rw [tw_upd_off (by omega)])), (hl 1 (by omega) nd (by omega)).trans (by repeat (first | exact tw_upd_at | assumption | rw [tw_upd_off (by omega)])), hk2⟩
  rw [tw_upd_off (by omega), tw_upd_off (by omega), tw_upd_off (by omega)]
  exact z2 i hi j hj
end tw_s66
