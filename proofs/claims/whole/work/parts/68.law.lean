/-! a law read, both at once -/
section tw_s68
variable {L : Nat} {xs : Nat → Int32} {σ : tw_Mem} {x y w : Int32} {n r i c k h q a b e : Nat}
/-- the nodes K from nd on are a law's tree, its nodes within a .. m - 1, so deep -/
def tw_tr (K : Nat → Nat → Nat) (a m : Nat) : Nat → Nat → Prop
  | 0, _ => False
  | f + 1, nd => (a ≤ nd ∧ nd < m) ∧ K 0 nd < 128 ∧ (tw_leaf (K 0 nd) ∨ (tw_oper (K 0 nd) ∧ (K 1 nd < 100 ∧ (K 0 nd = 107 ∨ K 0 nd = 120 → 1 ≤ K 1 nd)) ∧ tw_tr K a m f (K 2 nd) ∧ (tw_pair (K 0 nd) → tw_tr K a m f (K 3 nd))))
theorem tw_tr.cg {K K2 : Nat → Nat → Nat} {a m a2 m2 : Nat} (ha : a2 ≤ a) (hm : m ≤ m2) (e : ∀ i j, a ≤ j → j < m → K2 i j = K i j) : ∀ (f nd : Nat), tw_tr K a m f nd → tw_tr K2 a2 m2 f nd
  | 0, _, h => h
  | f + 1, nd, ⟨⟨h1, h2⟩, h3, h4⟩ => by
    have E : ∀ i, K2 i nd = K i nd := fun i => e i nd h1 h2
    refine ⟨⟨by omega, by omega⟩, by rw [E]; exact h3, ?_⟩
    rw [E, E, E, E]
    rcases h4 with h4 | ⟨h4, h5, h6, h7⟩
    · exact Or.inl h4
    · exact Or.inr ⟨h4, h5, tw_tr.cg ha hm e f _ h6, fun g => tw_tr.cg ha hm e f _ (h7 g)⟩
theorem tw_tr.tree {K : Nat → Nat → Nat} {m : Nat} {τ : tw_Mem} (h1 : tw_hk 14 K 0 m τ) (h2 : tw_hk 99 K 0 m τ) : ∀ (f nd : Nat), tw_tr K 0 m f nd → tw_tree τ 6 0 m f nd
  | 0, _, h => h
  | f + 1, nd, ⟨⟨_, g2⟩, g3, g4⟩ => by
    obtain ⟨a1, a2⟩ := h1 nd (by omega) g2
    obtain ⟨b1, b2⟩ := h2 nd (by omega) g2
    refine ⟨g2, K 0 nd, g3, a1, b1, ?_⟩
    rcases g4 with g4 | ⟨g4, g5, g6, g7⟩
    · exact Or.inl g4
    · obtain ⟨a3, a4, a5⟩ := a2 g4
      obtain ⟨b3, b4, b5⟩ := b2 g4
      exact Or.inr ⟨g4, ⟨K 1 nd, g5.1, a3, b3, g5.2⟩, ⟨K 2 nd, a4, b4, tw_tr.tree h1 h2 f _ g6⟩, fun g => ⟨K 3 nd, a5 g, b5 g, tw_tr.tree h1 h2 f _ (g7 g)⟩⟩
theorem tw_tr.node {c q nd nd2 m f : Nat} {K1 K2 : Nat → Nat → Nat} (hc : c < 128) (ho : tw_oper c) (hq : q < 100 ∧ (c = 107 ∨ c = 120 → 1 ≤ q)) (hn : nd < nd2) (hm : nd2 ≤ m) (h1 : tw_tr K1 (nd + 1) nd2 f (nd + 1)) (h2 : tw_pair c → tw_tr K2 nd2 m f nd2) (b : Nat) (hb : tw_pair c → b = nd2) : tw_tr (tw_kn c q (nd + 1) b nd nd2 K1 K2) nd m (f + 1) nd := by
  have E : ∀ i, tw_kn c q (nd + 1) b nd nd2 K1 K2 i nd = if i = 0 then c else if i = 1 then q else if i = 2 then nd + 1 else b := fun i => tw_kn_at
  refine ⟨⟨Nat.le_refl _, by omega⟩, by rw [E]; exact hc, Or.inr ?_⟩
  rw [E, E, E, E]
  refine ⟨ho, hq, tw_tr.cg (by omega) hm (fun i j j1 j2 => tw_kn_lo (by omega) (by omega)) _ _ h1, fun g => ?_⟩
  show tw_tr _ nd m f b
  rw [hb g]
  exact tw_tr.cg (by omega) (Nat.le_refl _) (fun i j j1 j2 => tw_kn_hi (by omega) (by omega)) _ _ (h2 g)
/-- what comes of reading a law from p on, of both at once -/
def tw_rdF (L : Nat) (xs : Nat → Int32) (ch : Nat → Nat) (k f p nd lv : Nat) : Prop := ∃ e, e ≤ k ∧ tw_cRF L xs ch k f p nd lv e ∧ tw_mRF L xs ch k f p nd lv e
def tw_rdO (L : Nat) (xs : Nat → Int32) (ch : Nat → Nat) (k f p nd lv : Nat) : Prop := ∃ p2 nd2 lv2 K, p < p2 ∧ p2 ≤ k ∧ nd < nd2 ∧ nd2 ≤ p2 ∧ tw_tr K nd nd2 (f + 1) nd ∧ tw_cRO L xs ch k f p nd lv p2 nd2 lv2 K ∧ tw_mRO L xs ch k f p nd lv p2 nd2 lv2 K
section tw_B68
variable {ch : Nat → Nat} {k f p nd lv : Nat}
theorem tw_rd_leaf (hC : tw_chs ch k) (hp : p ≤ k) (hn : nd ≤ p) (hl : tw_leaf (ch p)) : tw_rdO L xs ch k f p nd lv := by
  have hk := hC.1
  have hpk : p < k := tw_ch_in hC (by unfold tw_leaf at hl; omega)
  refine ⟨p + 1, nd + 1, lv + 1, fun _ _ => ch p, by omega, by omega, by omega, by omega, ⟨⟨Nat.le_refl _, by omega⟩, tw_ch_lt hC p, Or.inl hl⟩, fun σ op hop hS => ?_, fun σ op hop hS => ?_⟩
  · exact tw_c_leaf (Q := fun _ _ => True) hC (by omega) (by omega) hS hpk hl
  · exact tw_m_leaf (Q := fun _ _ => True) hC (by omega) (by omega) hS hpk hl
theorem tw_rd_bad (hC : tw_chs ch k) (hp : p ≤ k) (hl : ¬ tw_leaf (ch p)) (ho : f = 0 ∨ ¬ tw_oper (ch p)) : tw_rdF L xs ch k f p nd lv := by
  have hk := hC.1
  refine ⟨p, hp, fun σ op hop hS => ?_, fun σ op hop hS => ?_⟩
  · by_cases h6 : op = 6
    · exact tw_c_bad6 (Q := fun _ _ => True) hC (by omega) hS hl h6
    · exact tw_c_badL (Q := fun _ _ => True) hC (by omega) hS (by omega) hl (ho.resolve_left (by omega))
  · by_cases hz : tw_oper (ch p)
    · have h6 : op = 6 := by
        rcases ho with h | h
        · omega
        · exact absurd hz h
      subst h6
      exact tw_m_bad6 (Q := fun _ _ => True) hC (by omega) hS hz
    · exact tw_m_badL (Q := fun _ _ => True) hC (by omega) hS hl hz
/-- the letter and its number -/
theorem tw_rd_head (hC : tw_chs ch k) (hp : p ≤ k) (hn : nd ≤ p) (hl : ¬ tw_leaf (ch p)) (ho : tw_oper (ch p)) : tw_rdF L xs ch k (f + 1) p nd lv ∨ ∃ q p1, p < p1 ∧ p1 ≤ k ∧ q < 100 ∧ (ch p = 107 ∨ ch p = 120 → 1 ≤ q) ∧
    (∀ (σ : tw_Mem) (op : Nat) (Q : Option Value → tw_Mem → Prop), op < 6 → tw_cS ch k σ p nd lv → tw_P L xs (f + 1 + 5) 64 46 [.ref 70, .int (nI op), .int (nI (ch p)), tw_U, tw_U, tw_U, tw_U] [.int (nI q)] (tw_upd σ 70 2 (nI p1)) Q → tw_E L xs (f + 1 + 5) 64 [.ref 70, .int (nI op)] σ Q) ∧
    (∀ (σ : tw_Mem) (op : Nat) (Q : Option Value → tw_Mem → Prop), op < 6 → tw_mS ch k σ p nd lv op → (∀ τ b3 b4, b4 = tw_bl (¬ tw_pair (ch p)) → tw_mS ch k τ p1 (nd + 1) lv op → tw_mFr σ τ → tw_lo 104 nd σ τ → τ 104 nd = nI (ch p) → tw_P L xs (f + 1 + 5) 193 132 [.ref 88, .int (nI (ch p)), .int (nI nd), .int b3, .int b4] [.int (nI q), .int (nI nd), .ref 105] τ Q) → tw_E L xs (f + 1 + 5) 193 [.ref 88] σ Q) := by
  have hk := hC.1
  have hpk : p < k := tw_ch_in hC (by unfold tw_oper tw_numd at ho; omega)
  have hc := tw_ch_lt hC p
  by_cases hnu : tw_numd (ch p)
  · by_cases hok : tw_nl ch (p + 1) = 0 ∨ tw_nv ch (p + 1) < tw_lst (ch p)
    · refine Or.inl ⟨p + 1, by omega, fun σ op hop hS => ?_, fun σ op hop hS => ?_⟩
      · exact tw_c_hdF (Q := fun _ _ => True) hC (by omega) (by omega) hS hpk (by omega) hl ho hnu hok
      · refine tw_m_hd (f := f + 1) hC (by omega) (by omega) hS (by omega) ho (fun b3 b4 e3 e4 => ?_)
        exact tw_m97F hC (by omega) (by omega) hS hc e3 e4 hnu hok (fun v τ h => h)
    · refine Or.inr ⟨tw_nv ch (p + 1), p + 1 + tw_nl ch (p + 1), by omega, tw_nl_in hC (by omega), tw_nv_lt, fun h => ?_, fun σ op Q hop hS hQ => ?_, fun σ op Q hop hS hQ => ?_⟩
      · have e : tw_lst (ch p) = 1 := if_pos h
        rw [e] at hok
        omega
      · exact tw_c_hd1 hC (by omega) (by omega) hS hpk hop hl ho hnu hok hQ
      · refine tw_m_hd (f := f + 1) hC (by omega) (by omega) hS hop ho (fun b3 b4 e3 e4 => ?_)
        exact tw_m97n hC (by omega) (by omega) hS hc e3 hnu hok (fun τ => hQ τ b3 b4 e4)
  · refine Or.inr ⟨0, p + 1, by omega, by omega, by omega, fun h => absurd (by unfold tw_numd; omega) hnu, fun σ op Q hop hS hQ => ?_, fun σ op Q hop hS hQ => ?_⟩
    · exact tw_c_hd0 hC (by omega) (by omega) hS hpk hop hl ho hnu hQ
    · refine tw_m_hd (f := f + 1) hC (by omega) (by omega) hS hop ho (fun b3 b4 e3 e4 => ?_)
      exact tw_m97z hC (by omega) (by omega) hS hc e3 hnu (fun τ => hQ τ b3 b4 e4)
theorem tw_cS.at2 {ch : Nat → Nat} {k p p1 nd lv : Nat} (h : tw_cS ch k σ p nd lv) : tw_cS ch k (tw_upd σ 70 2 (nI p1)) p1 nd lv :=
  ⟨tw_cT.upd h.1 (by omega) (by omega) (by omega), tw_upd_at, (tw_upd_off (by omega)).trans h.2.2.1, (tw_upd_off (by omega)).trans h.2.2.2.1, (tw_upd_off (by omega)).trans h.2.2.2.2⟩
theorem tw_pF_to {e p1 : Nat} {v : Option Value} {τ : tw_Mem} (h : tw_pF e (tw_upd σ 70 2 (nI p1)) v τ) : tw_pF e σ v τ := ⟨h.1, h.2.1, tw_rF.tr (tw_rF.upd tw_rF.rf (by omega)) h.2.2⟩
theorem tw_rd (hC : tw_chs ch k) : ∀ f, f ≤ 6 → ∀ p nd lv, p ≤ k → nd ≤ p → tw_rdF L xs ch k f p nd lv ∨ tw_rdO L xs ch k f p nd lv := by
  have hk := hC.1
  intro f
  induction f with
  | zero =>
    intro _ p nd lv hp hn
    by_cases hl : tw_leaf (ch p)
    · exact Or.inr (tw_rd_leaf hC hp hn hl)
    · exact Or.inl (tw_rd_bad hC hp hl (Or.inl rfl))
  | succ f ih =>
    intro hf p nd lv hp hn
    by_cases hl : tw_leaf (ch p)
    · exact Or.inr (tw_rd_leaf hC hp hn hl)
    by_cases ho : tw_oper (ch p)
    rotate_left
    · exact Or.inl (tw_rd_bad hC hp hl (Or.inr ho))
    have hc := tw_ch_lt hC p
    rcases tw_rd_head (L := L) (xs := xs) (f := f) (lv := lv) hC hp hn hl ho with h | ⟨q, p1, hp1, hp1k, hq, hq1, HC, HM⟩
    · exact Or.inl h
    have T : ∀ {σ τ : tw_Mem}, tw_rF (tw_upd σ 70 2 (nI p1)) τ → tw_rF σ τ := fun h => tw_rF.tr (tw_rF.upd tw_rF.rf (by omega)) h
    by_cases h40 : ch p1 = 40
    rotate_left
    · refine Or.inl ⟨p1, hp1k, fun σ op hop hS => ?_, fun σ op hop hS => ?_⟩
      · exact HC σ op _ (by omega) hS (tw_c46a hC hc (by omega) (by omega) hS.at2 h40 (fun v τ h => tw_pF_to h))
      · exact HM σ op _ (by omega) hS (fun τ b3 b4 e4 g1 g2 g3 g4 => tw_m132a hC (by omega) (by omega) e4 g1 g2 g3 g4 h40 (fun v υ h => h))
    have hp1in : p1 < k := tw_ch_in hC (by omega)
    rcases ih (by omega) (p1 + 1) (nd + 1) lv (by omega) (by omega) with ⟨e, he, rC, rM⟩ | ⟨p2, nd2, lv2, K1, i1, i2, i3, i4, i5, rC, rM⟩
    · refine Or.inl ⟨e, he, fun σ op hop hS => ?_, fun σ op hop hS => ?_⟩
      · exact HC σ op _ (by omega) hS (tw_c46b (f := f + 1) hC hc (by omega) (by omega) hS.at2 hop (by omega) h40 (by omega) rC (fun v τ h => tw_pF_to h))
      · exact HM σ op _ (by omega) hS (fun τ b3 b4 e4 g1 g2 g3 g4 => tw_m132b (f := f + 1) hC (by omega) (by omega) e4 g1 g2 g3 g4 hop (by omega) h40 (by omega) rM (fun v υ h => h))
    -- the first part is read
    have HC2 : ∀ (σ : tw_Mem) (op : Nat) (Q : Option Value → tw_Mem → Prop), op + (f + 1) = 6 → tw_cS ch k σ p nd lv → (∀ τ, tw_c67S ch k (tw_upd σ 70 2 (nI p1)) τ (ch p) q nd p2 nd2 lv2 K1 → tw_P L xs (f + 1 + 5) 64 67 [.ref 70, .int (nI op), .int (nI (ch p)), .int (nI q), .int (nI nd), tw_U, tw_U] [.int (nI (nd + 1))] τ Q) → tw_E L xs (f + 1 + 5) 64 [.ref 70, .int (nI op)] σ Q := fun σ op Q hop hS hQ =>
      HC σ op Q (by omega) hS (tw_c46c (f := f + 1) hC hc (by omega) (by omega) hS.at2 hop (by omega) h40 rC hQ)
    have HM2 : ∀ (σ : tw_Mem) (op : Nat) (Q : Option Value → tw_Mem → Prop), op + (f + 1) = 6 → tw_mS ch k σ p nd lv op → (∀ τ b3 b4, b4 = tw_bl (¬ tw_pair (ch p)) → tw_m147S ch k σ τ (ch p) q nd p2 nd2 lv2 op K1 → tw_P L xs (f + 1 + 5) 193 147 [.ref 88, .int (nI (ch p)), .int (nI nd), .int b3, .int b4] [.int (nI (nd + 1)), .int (nI nd), .ref 106] τ Q) → tw_E L xs (f + 1 + 5) 193 [.ref 88] σ Q := fun σ op Q hop hS hQ =>
      HM σ op Q (by omega) hS (fun τ b3 b4 e4 g1 g2 g3 g4 => tw_m132c (f := f + 1) hC (by omega) (by omega) e4 g1 g2 g3 g4 hop (by omega) h40 rM (fun υ h => hQ υ b3 b4 e4 h))
    have LO : ∀ {σ τ : tw_Mem}, tw_lo 72 nd (tw_upd σ 70 2 (nI p1)) τ → tw_lo 72 nd σ τ := fun h => tw_lo.tr (nd2 := nd) (tw_lo.upd tw_lo.rf (by omega)) h (Nat.le_refl _)
    by_cases hx : tw_pair (ch p)
    · by_cases h44 : ch p2 = 44
      rotate_left
      · refine Or.inl ⟨p2, i2, fun σ op hop hS => ?_, fun σ op hop hS => ?_⟩
        · exact HC2 σ op _ hop hS (fun τ h => tw_c67c hC hc (by omega) (by omega) (by omega) h hx h44 (fun v υ h => tw_pF_to h))
        · exact HM2 σ op _ hop hS (fun τ b3 b4 e4 h => tw_m147c hC (by omega) (by omega) (by omega) e4 h hx h44 (fun v υ h => h))
      have hp2in : p2 < k := tw_ch_in hC (by omega)
      rcases ih (by omega) (p2 + 1) nd2 lv2 (by omega) (by omega) with ⟨e, he, sC, sM⟩ | ⟨p3, nd3, lv3, K2, j1, j2, j3, j4, j5, sC, sM⟩
      · refine Or.inl ⟨e, he, fun σ op hop hS => ?_, fun σ op hop hS => ?_⟩
        · exact HC2 σ op _ hop hS (fun τ h => tw_c67d (f := f + 1) hC hc (by omega) (by omega) (by omega) h hop (by omega) hx h44 (by omega) sC (fun v υ h => tw_pF_to h))
        · exact HM2 σ op _ hop hS (fun τ b3 b4 e4 h => tw_m147d (f := f + 1) hC (by omega) (by omega) (by omega) e4 h hop (by omega) hx h44 (by omega) sM (fun v υ h => h))
      by_cases h41 : ch p3 = 41
      · have hp3in : p3 < k := tw_ch_in hC (by omega)
        refine Or.inr ⟨p3 + 1, nd3, lv3, tw_kn (ch p) q (nd + 1) nd2 nd nd2 K1 K2, by omega, by omega, by omega, by omega, tw_tr.node hc ho ⟨hq, hq1⟩ (by omega) (by omega) i5 (fun _ => j5) nd2 (fun _ => rfl), fun σ op hop hS => ?_, fun σ op hop hS => ?_⟩
        · exact HC2 σ op _ hop hS (fun τ h => tw_c67f (f := f + 1) hC hc (by omega) (by omega) (by omega) h hop (by omega) hx h44 (by omega) (by omega) (by omega) sC h41 (fun v υ h => ⟨h.1, h.2.1, T h.2.2.1, LO h.2.2.2.1, h.2.2.2.2⟩))
        · exact HM2 σ op _ hop hS (fun τ b3 b4 e4 h => tw_m147f (f := f + 1) hC (by omega) (by omega) (by omega) e4 h hop (by omega) hx h44 (by omega) (by omega) (by omega) sM h41 (fun v υ h => h))
      · refine Or.inl ⟨p3, j2, fun σ op hop hS => ?_, fun σ op hop hS => ?_⟩
        · exact HC2 σ op _ hop hS (fun τ h => tw_c67e (f := f + 1) hC hc (by omega) (by omega) (by omega) h hop (by omega) hx h44 (by omega) (by omega) (by omega) sC h41 (fun v υ h => tw_pF_to h))
        · exact HM2 σ op _ hop hS (fun τ b3 b4 e4 h => tw_m147e (f := f + 1) hC (by omega) (by omega) (by omega) e4 h hop (by omega) hx h44 (by omega) (by omega) (by omega) sM h41 (fun v υ h => h))
    · by_cases h41 : ch p2 = 41
      · have hp2in : p2 < k := tw_ch_in hC (by omega)
        refine Or.inr ⟨p2 + 1, nd2, lv2, tw_kn (ch p) q (nd + 1) 0 nd nd2 K1 K1, by omega, by omega, by omega, by omega, tw_tr.node hc ho ⟨hq, hq1⟩ (by omega) (Nat.le_refl _) i5 (fun g => absurd g hx) 0 (fun g => absurd g hx), fun σ op hop hS => ?_, fun σ op hop hS => ?_⟩
        · exact HC2 σ op _ hop hS (fun τ h => tw_c67b hC hc (by omega) (by omega) (by omega) h hx h41 (fun v υ h => ⟨h.1, h.2.1, T h.2.2.1, LO h.2.2.2.1, h.2.2.2.2⟩))
        · exact HM2 σ op _ hop hS (fun τ b3 b4 e4 h => tw_m147b hC (by omega) (by omega) (by omega) e4 h hx h41 (fun v υ h => h))
      · refine Or.inl ⟨p2, i2, fun σ op hop hS => ?_, fun σ op hop hS => ?_⟩
        · exact HC2 σ op _ hop hS (fun τ h => tw_c67a hC hc (by omega) (by omega) (by omega) h hx h41 (fun v υ h => tw_pF_to h))
        · exact HM2 σ op _ hop hS (fun τ b3 b4 e4 h => tw_m147a hC (by omega) (by omega) (by omega) e4 h hx h41 (fun v υ h => h))
end tw_B68
end tw_s68
