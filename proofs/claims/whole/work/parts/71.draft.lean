/-! drafts, the reference -/
section tw_s71
variable {L : Nat} {xs : Nat → Int32} {σ : tw_Mem} {x y w : Int32} {n r i c k h q a b e : Nat}
/-- the reference's least so far, with one more turning -/
def tw_tb (w : Nat → Int32) (x : Int32) (C : Nat → Nat) (p t b : Nat) : Nat := if w (tw_pl p t) = x then min b ((if t = 0 then 0 else 1) + C (tw_pl p t)) else b
theorem tw_tb_lc {w : Nat → Int32} {x : Int32} {C : Nat → Nat} {p : Nat} : min 1000 (tw_tb w x C p 2 (tw_tb w x C p 1 (tw_tb w x C p 0 1000))) = tw_lc w x C p := by
  unfold tw_lc tw_tb tw_cb
  by_cases h0 : w (tw_pl p 0) = x <;> by_cases h1 : w (tw_pl p 1) = x <;> by_cases h2 : w (tw_pl p 2) = x <;> simp [h0, h1, h2] <;> omega
theorem tw_tb_le {w : Nat → Int32} {x : Int32} {C : Nat → Nat} {p t b : Nat} : tw_tb w x C p t b ≤ b := by unfold tw_tb; split <;> omega
theorem tw_cb_eq {w : Nat → Int32} {x : Int32} {C : Nat → Nat} {p t : Nat} (h : tw_lc w x C p < 1000) (ht : 1 ≤ t) : tw_cb w x C p t = tw_lc w x C p ↔ (w (tw_pl p t) = x ∧ 1 + C (tw_pl p t) = tw_lc w x C p) := by
  unfold tw_cb
  by_cases g : w (tw_pl p t) = x
  · rw [if_pos g, if_neg (by omega)]
    exact ⟨fun e => ⟨g, by omega⟩, fun e => by have := e.2; omega⟩
  · rw [if_neg g]
    exact ⟨fun e => by omega, fun e => absurd e.1 g⟩
theorem tw_bt1 {w : Nat → Int32} {x : Int32} {C : Nat → Nat} {p : Nat} (h : tw_lc w x C p < 1000) (h1 : w (tw_pl p 1) = x ∧ 1 + C (tw_pl p 1) = tw_lc w x C p) : tw_bt w x C p = 1 := by
  unfold tw_bt
  rw [if_pos ((tw_cb_eq h (by decide)).mpr h1)]
theorem tw_bt2 {w : Nat → Int32} {x : Int32} {C : Nat → Nat} {p : Nat} (h : tw_lc w x C p < 1000) (h1 : ¬ (w (tw_pl p 1) = x ∧ 1 + C (tw_pl p 1) = tw_lc w x C p)) (h2 : w (tw_pl p 2) = x ∧ 1 + C (tw_pl p 2) = tw_lc w x C p) : tw_bt w x C p = 2 := by
  unfold tw_bt
  rw [if_neg (fun e => h1 ((tw_cb_eq h (by decide)).mp e)), if_pos ((tw_cb_eq h (by decide)).mpr h2)]
theorem tw_bt0 {w : Nat → Int32} {x : Int32} {C : Nat → Nat} {p : Nat} (h : tw_lc w x C p < 1000) (h1 : ¬ (w (tw_pl p 1) = x ∧ 1 + C (tw_pl p 1) = tw_lc w x C p)) (h2 : ¬ (w (tw_pl p 2) = x ∧ 1 + C (tw_pl p 2) = tw_lc w x C p)) : tw_bt w x C p = 0 := by
  unfold tw_bt
  rw [if_neg (fun e => h1 ((tw_cb_eq h (by decide)).mp e)), if_neg (fun e => h2 ((tw_cb_eq h (by decide)).mp e))]
theorem tw_bt_nx {w : Nat → Int32} {x : Int32} {C : Nat → Nat} {p : Nat} (h : tw_lc w x C p < 1000) : C (tw_pl p (tw_bt w x C p)) < 1000 := by
  have key : ∀ t, tw_cb w x C p t = tw_lc w x C p → C (tw_pl p t) < 1000 := fun t e => by
    rw [← e] at h
    unfold tw_cb at h
    split at h
    · omega
    · omega
  unfold tw_bt
  by_cases h1 : tw_cb w x C p 1 = tw_lc w x C p
  · rw [if_pos h1]; exact key 1 h1
  · rw [if_neg h1]
    by_cases h2 : tw_cb w x C p 2 = tw_lc w x C p
    · rw [if_pos h2]; exact key 2 h2
    · rw [if_neg h2]
      have e : tw_lc w x C p = min (min (min 1000 (tw_cb w x C p 1)) (tw_cb w x C p 2)) (tw_cb w x C p 0) := rfl
      exact key 0 (by omega)
theorem tw_fp_nx {w pc : Nat → Int32} {H p0 l : Nat} (hl : l < H) (h : tw_ct w pc H (H - l) (tw_fp w pc H p0 l) < 1000) : tw_ct w pc H (H - (l + 1)) (tw_fp w pc H p0 (l + 1)) < 1000 := by
  rw [tw_ct_ln hl] at h
  exact tw_bt_nx h
theorem tw_kd21 : nI 2 + (-1) = nI 1 := by decide
theorem tw_kd10 : nI 1 + (-1) = nI 0 := by decide
set_option maxHeartbeats 4000000 in
set_option maxRecDepth 100000 in
theorem tw_l_mt {Q : Option Value → tw_Mem → Prop} {w pc : Nat → Int32} {C : Nat → Nat} {l p t b h a : Nat} {u : Value} (hc : c < 10) (hl : l < 8) (hp : p < 4) (ht : t < 3) (hb : b ≤ 1000) (hw : ∀ h, h < 4 → σ 91 (4 * c + h) = w h) (hx : σ 113 (10 * l + c) = pc l) (hC : ∀ q, q < 4 → σ 114 (4 * (l + 1) + q) = nI (C q)) (hC2 : ∀ q, q < 4 → C q ≤ 1000) (hQ : ∀ u, tw_P L xs 1 230 80 [.ref 88, .int (nI c), .int (nI h), .int (nI a), .int (nI l), .int (nI p), .int (nI (tw_tb w (pc l) C p t b)), .int (nI t), u] [] σ Q) : tw_P L xs 1 230 37 [.ref 88, .int (nI c), .int (nI h), .int (nI a), .int (nI l), .int (nI p), .int (nI b), .int (nI t), u] [] σ Q := by
  have hpl := @tw_pl4 p t
  have hm3 := tw_mI_le (t := t)
  have hCb := hC2 _ hpl
  rcases (show t = 0 ∨ 0 < t by omega) with hz | hz
  · subst hz
    refine tw_sg 2 (i1 := 39) (ls1 := [.ref 88, .int (nI c), .int (nI h), .int (nI a), .int (nI l), .int (nI p), .int (nI b), .int (nI 0), u]) (st1 := [.int (nI 0), .int (nI p)]) (σ1 := σ) rfl ?_
    refine tw_cl1 rfl (rfl) (by decide) (tw_e_moved (t := 0) (by omega)) ?_
    rintro _ _ ⟨rfl, rfl⟩
    show tw_P L xs _ 230 40 [.ref 88, .int (nI c), .int (nI h), .int (nI a), .int (nI l), .int (nI p), .int (nI b), .int (nI 0), u] [.int (nI (tw_mI 0)), .int (nI p)] σ _
    refine tw_sgn 2 (i1 := 42) (ls0 := [.ref 88, .int (nI c), .int (nI h), .int (nI a), .int (nI l), .int (nI p), .int (nI b), .int (nI 0), u]) (st0 := [.int (nI 4), .int (nI p + nI (tw_mI 0))]) (σ0 := σ) (ls1 := [.ref 88, .int (nI c), .int (nI h), .int (nI a), .int (nI l), .int (nI p), .int (nI b), .int (nI 0), u]) (st1 := [.int (nI 4), .int (nI (p + (tw_mI 0)))]) (σ1 := σ) rfl (rfl) (by simp only [tw_nadd, tw_nmul]) (rfl) ?_
    refine tw_rm rfl (by decide) ?_
    rw [tw_nrem (by omega) (by decide)]
    refine tw_sgn 8 (i1 := 51) (ls0 := [.ref 88, .int (nI c), .int (nI h), .int (nI a), .int (nI l), .int (nI p), .int (nI b), .int (nI 0), .int (nI (tw_pl p 0))]) (st0 := [.int ((nI 4 * nI c) + nI (tw_pl p 0)), .ref 91]) (σ0 := σ) (ls1 := [.ref 88, .int (nI c), .int (nI h), .int (nI a), .int (nI l), .int (nI p), .int (nI b), .int (nI 0), .int (nI (tw_pl p 0))]) (st1 := [.int (nI ((4 * c) + (tw_pl p 0))), .ref 91]) (σ1 := σ) rfl (rfl) (by simp only [tw_nadd, tw_nmul]) (rfl) ?_
    refine tw_al (k := 91) (j := (4 * c + tw_pl p 0)) (len := 80) rfl rfl rfl rfl (rfl) (by omega) (by decide) ?_
    rw [(hw _ hpl)]
    refine tw_sgn 7 (i1 := 59) (ls0 := [.ref 88, .int (nI c), .int (nI h), .int (nI a), .int (nI l), .int (nI p), .int (nI b), .int (nI 0), .int (nI (tw_pl p 0))]) (st0 := [.int ((nI 10 * nI l) + nI c), .ref 113, .int (w (tw_pl p 0))]) (σ0 := σ) (ls1 := [.ref 88, .int (nI c), .int (nI h), .int (nI a), .int (nI l), .int (nI p), .int (nI b), .int (nI 0), .int (nI (tw_pl p 0))]) (st1 := [.int (nI ((10 * l) + c)), .ref 113, .int (w (tw_pl p 0))]) (σ1 := σ) rfl (rfl) (by simp only [tw_nadd, tw_nmul]) (rfl) ?_
    refine tw_al (k := 113) (j := (10 * l + c)) (len := 80) rfl rfl rfl rfl (rfl) (by omega) (by decide) ?_
    rw [hx]
    refine tw_bi (c := .ne) rfl (fun h1 => ?_) (fun h1 => ?_)
    · rw [tw_cne] at h1
      have hQ := hQ (.int (nI (tw_pl p 0)))
      unfold tw_tb at hQ
      rw [if_neg h1] at hQ
      exact hQ
    · rw [tw_cne'] at h1
      refine tw_sg 2 (i1 := 63) (ls1 := [.ref 88, .int (nI c), .int (nI h), .int (nI a), .int (nI l), .int (nI p), .int (nI b), .int (nI 0), .int (nI (tw_pl p 0))]) (st1 := [.int (nI 0), .int (nI b)]) (σ1 := σ) rfl ?_
      refine tw_bzF (c := .ne) rfl (by rw [tw_cne', tw_neq (by omega) (by omega)] <;> omega) ?_
      show tw_P L xs _ 230 64 [.ref 88, .int (nI c), .int (nI h), .int (nI a), .int (nI l), .int (nI p), .int (nI b), .int (nI 0), .int (nI (tw_pl p 0))] [.int (nI b)] σ _
      refine tw_sgn 11 (i1 := 76) (ls0 := [.ref 88, .int (nI c), .int (nI h), .int (nI a), .int (nI l), .int (nI p), .int (nI b), .int (nI 0), .int (nI (tw_pl p 0))]) (st0 := [.int ((nI 4 * (nI l + nI 1)) + nI (tw_pl p 0)), .ref 114, .int (nI 0), .int (nI b)]) (σ0 := σ) (ls1 := [.ref 88, .int (nI c), .int (nI h), .int (nI a), .int (nI l), .int (nI p), .int (nI b), .int (nI 0), .int (nI (tw_pl p 0))]) (st1 := [.int (nI ((4 * (l + 1)) + (tw_pl p 0))), .ref 114, .int (nI 0), .int (nI b)]) (σ1 := σ) rfl (rfl) (by simp only [tw_nadd, tw_nmul]) (rfl) ?_
      refine tw_al (k := 114) (j := (4 * (l + 1) + tw_pl p 0)) (len := 36) rfl rfl rfl rfl (rfl) (by omega) (by decide) ?_
      rw [(hC _ hpl)]
      refine tw_sgn 1 (i1 := 78) (ls0 := [.ref 88, .int (nI c), .int (nI h), .int (nI a), .int (nI l), .int (nI p), .int (nI b), .int (nI 0), .int (nI (tw_pl p 0))]) (st0 := [.int (nI 0 + nI (C (tw_pl p 0))), .int (nI b)]) (σ0 := σ) (ls1 := [.ref 88, .int (nI c), .int (nI h), .int (nI a), .int (nI l), .int (nI p), .int (nI b), .int (nI 0), .int (nI (tw_pl p 0))]) (st1 := [.int (nI (0 + (C (tw_pl p 0)))), .int (nI b)]) (σ1 := σ) rfl (rfl) (by simp only [tw_nadd, tw_nmul]) (rfl) ?_
      refine tw_cl1 rfl (rfl) (by decide) (tw_e_minN (a := b) (b := 0 + (C (tw_pl p 0))) (by omega) (by omega)) ?_
      rintro _ _ ⟨rfl, rfl⟩
      show tw_P L xs _ 230 79 [.ref 88, .int (nI c), .int (nI h), .int (nI a), .int (nI l), .int (nI p), .int (nI b), .int (nI 0), .int (nI (tw_pl p 0))] [.int (nI (min b (0 + (C (tw_pl p 0)))))] σ _
      refine tw_sg 1 (i1 := 80) (ls1 := [.ref 88, .int (nI c), .int (nI h), .int (nI a), .int (nI l), .int (nI p), .int (nI (min b (0 + (C (tw_pl p 0))))), .int (nI 0), .int (nI (tw_pl p 0))]) (st1 := []) (σ1 := σ) rfl ?_
      have hQ := hQ (.int (nI (tw_pl p 0)))
      unfold tw_tb at hQ
      rw [if_pos h1, if_pos rfl] at hQ
      exact hQ
  · skip
    refine tw_sg 2 (i1 := 39) (ls1 := [.ref 88, .int (nI c), .int (nI h), .int (nI a), .int (nI l), .int (nI p), .int (nI b), .int (nI t), u]) (st1 := [.int (nI t), .int (nI p)]) (σ1 := σ) rfl ?_
    refine tw_cl1 rfl (rfl) (by decide) (tw_e_moved (t := t) (by omega)) ?_
    rintro _ _ ⟨rfl, rfl⟩
    show tw_P L xs _ 230 40 [.ref 88, .int (nI c), .int (nI h), .int (nI a), .int (nI l), .int (nI p), .int (nI b), .int (nI t), u] [.int (nI (tw_mI t)), .int (nI p)] σ _
    refine tw_sgn 2 (i1 := 42) (ls0 := [.ref 88, .int (nI c), .int (nI h), .int (nI a), .int (nI l), .int (nI p), .int (nI b), .int (nI t), u]) (st0 := [.int (nI 4), .int (nI p + nI (tw_mI t))]) (σ0 := σ) (ls1 := [.ref 88, .int (nI c), .int (nI h), .int (nI a), .int (nI l), .int (nI p), .int (nI b), .int (nI t), u]) (st1 := [.int (nI 4), .int (nI (p + (tw_mI t)))]) (σ1 := σ) rfl (rfl) (by simp only [tw_nadd, tw_nmul]) (rfl) ?_
    refine tw_rm rfl (by decide) ?_
    rw [tw_nrem (by omega) (by decide)]
    refine tw_sgn 8 (i1 := 51) (ls0 := [.ref 88, .int (nI c), .int (nI h), .int (nI a), .int (nI l), .int (nI p), .int (nI b), .int (nI t), .int (nI (tw_pl p t))]) (st0 := [.int ((nI 4 * nI c) + nI (tw_pl p t)), .ref 91]) (σ0 := σ) (ls1 := [.ref 88, .int (nI c), .int (nI h), .int (nI a), .int (nI l), .int (nI p), .int (nI b), .int (nI t), .int (nI (tw_pl p t))]) (st1 := [.int (nI ((4 * c) + (tw_pl p t))), .ref 91]) (σ1 := σ) rfl (rfl) (by simp only [tw_nadd, tw_nmul]) (rfl) ?_
    refine tw_al (k := 91) (j := (4 * c + tw_pl p t)) (len := 80) rfl rfl rfl rfl (rfl) (by omega) (by decide) ?_
    rw [(hw _ hpl)]
    refine tw_sgn 7 (i1 := 59) (ls0 := [.ref 88, .int (nI c), .int (nI h), .int (nI a), .int (nI l), .int (nI p), .int (nI b), .int (nI t), .int (nI (tw_pl p t))]) (st0 := [.int ((nI 10 * nI l) + nI c), .ref 113, .int (w (tw_pl p t))]) (σ0 := σ) (ls1 := [.ref 88, .int (nI c), .int (nI h), .int (nI a), .int (nI l), .int (nI p), .int (nI b), .int (nI t), .int (nI (tw_pl p t))]) (st1 := [.int (nI ((10 * l) + c)), .ref 113, .int (w (tw_pl p t))]) (σ1 := σ) rfl (rfl) (by simp only [tw_nadd, tw_nmul]) (rfl) ?_
    refine tw_al (k := 113) (j := (10 * l + c)) (len := 80) rfl rfl rfl rfl (rfl) (by omega) (by decide) ?_
    rw [hx]
    refine tw_bi (c := .ne) rfl (fun h1 => ?_) (fun h1 => ?_)
    · rw [tw_cne] at h1
      have hQ := hQ (.int (nI (tw_pl p t)))
      unfold tw_tb at hQ
      rw [if_neg h1] at hQ
      exact hQ
    · rw [tw_cne'] at h1
      refine tw_sg 2 (i1 := 63) (ls1 := [.ref 88, .int (nI c), .int (nI h), .int (nI a), .int (nI l), .int (nI p), .int (nI b), .int (nI t), .int (nI (tw_pl p t))]) (st1 := [.int (nI t), .int (nI b)]) (σ1 := σ) rfl ?_
      refine tw_bzT (c := .ne) rfl (by rw [tw_cne, tw_neq (by omega) (by omega)] <;> omega) ?_
      show tw_P L xs _ 230 66 [.ref 88, .int (nI c), .int (nI h), .int (nI a), .int (nI l), .int (nI p), .int (nI b), .int (nI t), .int (nI (tw_pl p t))] [.int (nI b)] σ _
      refine tw_sgn 10 (i1 := 76) (ls0 := [.ref 88, .int (nI c), .int (nI h), .int (nI a), .int (nI l), .int (nI p), .int (nI b), .int (nI t), .int (nI (tw_pl p t))]) (st0 := [.int ((nI 4 * (nI l + nI 1)) + nI (tw_pl p t)), .ref 114, .int (nI 1), .int (nI b)]) (σ0 := σ) (ls1 := [.ref 88, .int (nI c), .int (nI h), .int (nI a), .int (nI l), .int (nI p), .int (nI b), .int (nI t), .int (nI (tw_pl p t))]) (st1 := [.int (nI ((4 * (l + 1)) + (tw_pl p t))), .ref 114, .int (nI 1), .int (nI b)]) (σ1 := σ) rfl (rfl) (by simp only [tw_nadd, tw_nmul]) (rfl) ?_
      refine tw_al (k := 114) (j := (4 * (l + 1) + tw_pl p t)) (len := 36) rfl rfl rfl rfl (rfl) (by omega) (by decide) ?_
      rw [(hC _ hpl)]
      refine tw_sgn 1 (i1 := 78) (ls0 := [.ref 88, .int (nI c), .int (nI h), .int (nI a), .int (nI l), .int (nI p), .int (nI b), .int (nI t), .int (nI (tw_pl p t))]) (st0 := [.int (nI 1 + nI (C (tw_pl p t))), .int (nI b)]) (σ0 := σ) (ls1 := [.ref 88, .int (nI c), .int (nI h), .int (nI a), .int (nI l), .int (nI p), .int (nI b), .int (nI t), .int (nI (tw_pl p t))]) (st1 := [.int (nI (1 + (C (tw_pl p t)))), .int (nI b)]) (σ1 := σ) rfl (rfl) (by simp only [tw_nadd, tw_nmul]) (rfl) ?_
      refine tw_cl1 rfl (rfl) (by decide) (tw_e_minN (a := b) (b := 1 + (C (tw_pl p t))) (by omega) (by omega)) ?_
      rintro _ _ ⟨rfl, rfl⟩
      show tw_P L xs _ 230 79 [.ref 88, .int (nI c), .int (nI h), .int (nI a), .int (nI l), .int (nI p), .int (nI b), .int (nI t), .int (nI (tw_pl p t))] [.int (nI (min b (1 + (C (tw_pl p t)))))] σ _
      refine tw_sg 1 (i1 := 80) (ls1 := [.ref 88, .int (nI c), .int (nI h), .int (nI a), .int (nI l), .int (nI p), .int (nI (min b (1 + (C (tw_pl p t))))), .int (nI t), .int (nI (tw_pl p t))]) (st1 := []) (σ1 := σ) rfl ?_
      have hQ := hQ (.int (nI (tw_pl p t)))
      unfold tw_tb at hQ
      rw [if_pos h1, if_neg (by omega)] at hQ
      exact hQ
set_option maxHeartbeats 4000000 in
set_option maxRecDepth 100000 in
theorem tw_l_mp {Q : Option Value → tw_Mem → Prop} {w pc : Nat → Int32} {C : Nat → Nat} {l p h a : Nat} {u6 u7 u8 : Value} (hc : c < 10) (hl : l < 8) (hp : p < 4) (hw : ∀ h, h < 4 → σ 91 (4 * c + h) = w h) (hx : σ 113 (10 * l + c) = pc l) (hC : ∀ q, q < 4 → σ 114 (4 * (l + 1) + q) = nI (C q)) (hC2 : ∀ q, q < 4 → C q ≤ 1000) (hQ : ∀ v6 v7 v8, tw_P L xs 1 230 93 [.ref 88, .int (nI c), .int (nI h), .int (nI a), .int (nI l), .int (nI p), v6, v7, v8] [] (tw_upd σ 114 (4 * l + p) (nI (tw_lc w (pc l) C p))) Q) : tw_P L xs 1 230 30 [.ref 88, .int (nI c), .int (nI h), .int (nI a), .int (nI l), .int (nI p), u6, u7, u8] [] σ Q := by
  refine tw_sg 6 (i1 := 36) (ls1 := [.ref 88, .int (nI c), .int (nI h), .int (nI a), .int (nI l), .int (nI p), .int (nI 1000), .int (nI 0), u8]) (st1 := [.int (nI 3), .int (nI 0)]) (σ1 := σ) rfl ?_
  refine tw_biF (c := .ge) rfl (by rw [tw_cge', tw_nle (by omega) (by omega)] <;> omega) ?_
  show tw_P L xs _ 230 37 [.ref 88, .int (nI c), .int (nI h), .int (nI a), .int (nI l), .int (nI p), .int (nI 1000), .int (nI 0), u8] [] σ _
  have g0 := @tw_tb_le w (pc l) C p 0 1000
  refine tw_l_mt (t := 0) (b := 1000) hc hl hp (by decide) (by omega) hw hx hC hC2 (fun ua => ?_)
  refine tw_sgn 4 (i1 := 36) (ls0 := [.ref 88, .int (nI c), .int (nI h), .int (nI a), .int (nI l), .int (nI p), .int (nI (tw_tb w (pc l) C p 0 1000)), .int (nI 0 + nI 1), ua]) (st0 := [.int (nI 3), .int (nI 0 + nI 1)]) (σ0 := σ) (ls1 := [.ref 88, .int (nI c), .int (nI h), .int (nI a), .int (nI l), .int (nI p), .int (nI (tw_tb w (pc l) C p 0 1000)), .int (nI 1), ua]) (st1 := [.int (nI 3), .int (nI 1)]) (σ1 := σ) rfl (by simp only [tw_nadd, tw_nmul]) (by simp only [tw_nadd, tw_nmul]) (rfl) ?_
  refine tw_biF (c := .ge) rfl (by rw [tw_cge', tw_nle (by omega) (by omega)] <;> omega) ?_
  show tw_P L xs _ 230 37 [.ref 88, .int (nI c), .int (nI h), .int (nI a), .int (nI l), .int (nI p), .int (nI (tw_tb w (pc l) C p 0 1000)), .int (nI 1), ua] [] σ _
  have g1 := @tw_tb_le w (pc l) C p 1 (tw_tb w (pc l) C p 0 1000)
  refine tw_l_mt (t := 1) (b := (tw_tb w (pc l) C p 0 1000)) hc hl hp (by decide) (by omega) hw hx hC hC2 (fun ub => ?_)
  refine tw_sgn 4 (i1 := 36) (ls0 := [.ref 88, .int (nI c), .int (nI h), .int (nI a), .int (nI l), .int (nI p), .int (nI (tw_tb w (pc l) C p 1 (tw_tb w (pc l) C p 0 1000))), .int (nI 1 + nI 1), ub]) (st0 := [.int (nI 3), .int (nI 1 + nI 1)]) (σ0 := σ) (ls1 := [.ref 88, .int (nI c), .int (nI h), .int (nI a), .int (nI l), .int (nI p), .int (nI (tw_tb w (pc l) C p 1 (tw_tb w (pc l) C p 0 1000))), .int (nI 2), ub]) (st1 := [.int (nI 3), .int (nI 2)]) (σ1 := σ) rfl (by simp only [tw_nadd, tw_nmul]) (by simp only [tw_nadd, tw_nmul]) (rfl) ?_
  refine tw_biF (c := .ge) rfl (by rw [tw_cge', tw_nle (by omega) (by omega)] <;> omega) ?_
  show tw_P L xs _ 230 37 [.ref 88, .int (nI c), .int (nI h), .int (nI a), .int (nI l), .int (nI p), .int (nI (tw_tb w (pc l) C p 1 (tw_tb w (pc l) C p 0 1000))), .int (nI 2), ub] [] σ _
  have g2 := @tw_tb_le w (pc l) C p 2 (tw_tb w (pc l) C p 1 (tw_tb w (pc l) C p 0 1000))
  refine tw_l_mt (t := 2) (b := (tw_tb w (pc l) C p 1 (tw_tb w (pc l) C p 0 1000))) hc hl hp (by decide) (by omega) hw hx hC hC2 (fun uc => ?_)
  refine tw_sgn 4 (i1 := 36) (ls0 := [.ref 88, .int (nI c), .int (nI h), .int (nI a), .int (nI l), .int (nI p), .int (nI (tw_tb w (pc l) C p 2 (tw_tb w (pc l) C p 1 (tw_tb w (pc l) C p 0 1000)))), .int (nI 2 + nI 1), uc]) (st0 := [.int (nI 3), .int (nI 2 + nI 1)]) (σ0 := σ) (ls1 := [.ref 88, .int (nI c), .int (nI h), .int (nI a), .int (nI l), .int (nI p), .int (nI (tw_tb w (pc l) C p 2 (tw_tb w (pc l) C p 1 (tw_tb w (pc l) C p 0 1000)))), .int (nI 3), uc]) (st1 := [.int (nI 3), .int (nI 3)]) (σ1 := σ) rfl (by simp only [tw_nadd, tw_nmul]) (by simp only [tw_nadd, tw_nmul]) (rfl) ?_
  refine tw_biT (c := .ge) rfl (by rw [tw_cge, tw_nle (by omega) (by omega)] <;> omega) ?_
  show tw_P L xs _ 230 82 [.ref 88, .int (nI c), .int (nI h), .int (nI a), .int (nI l), .int (nI p), .int (nI (tw_tb w (pc l) C p 2 (tw_tb w (pc l) C p 1 (tw_tb w (pc l) C p 0 1000)))), .int (nI 3), uc] [] σ _
  refine tw_sgn 9 (i1 := 91) (ls0 := [.ref 88, .int (nI c), .int (nI h), .int (nI a), .int (nI l), .int (nI p), .int (nI (tw_tb w (pc l) C p 2 (tw_tb w (pc l) C p 1 (tw_tb w (pc l) C p 0 1000)))), .int (nI 3), uc]) (st0 := [.int (nI (tw_tb w (pc l) C p 2 (tw_tb w (pc l) C p 1 (tw_tb w (pc l) C p 0 1000)))), .int (nI 1000), .int ((nI 4 * nI l) + nI p), .ref 114]) (σ0 := σ) (ls1 := [.ref 88, .int (nI c), .int (nI h), .int (nI a), .int (nI l), .int (nI p), .int (nI (tw_tb w (pc l) C p 2 (tw_tb w (pc l) C p 1 (tw_tb w (pc l) C p 0 1000)))), .int (nI 3), uc]) (st1 := [.int (nI (tw_tb w (pc l) C p 2 (tw_tb w (pc l) C p 1 (tw_tb w (pc l) C p 0 1000)))), .int (nI 1000), .int (nI ((4 * l) + p)), .ref 114]) (σ1 := σ) rfl (rfl) (by simp only [tw_nadd, tw_nmul]) (rfl) ?_
  refine tw_cl1 rfl (rfl) (by decide) (tw_e_minN (a := 1000) (b := tw_tb w (pc l) C p 2 (tw_tb w (pc l) C p 1 (tw_tb w (pc l) C p 0 1000))) (by omega) (by omega)) ?_
  rintro _ _ ⟨rfl, rfl⟩
  show tw_P L xs _ 230 92 [.ref 88, .int (nI c), .int (nI h), .int (nI a), .int (nI l), .int (nI p), .int (nI (tw_tb w (pc l) C p 2 (tw_tb w (pc l) C p 1 (tw_tb w (pc l) C p 0 1000)))), .int (nI 3), uc] [.int (nI (min 1000 (tw_tb w (pc l) C p 2 (tw_tb w (pc l) C p 1 (tw_tb w (pc l) C p 0 1000))))), .int (nI ((4 * l) + p)), .ref 114] σ _
  refine tw_as (k := 114) (j := (4 * l + p)) (len := 36) rfl rfl rfl (rfl) (by omega) (by decide) ?_
  rw [tw_tb_lc]
  exact hQ _ _ _
def tw_ffS (σ0 σ : tw_Mem) (w pc : Nat → Int32) (H m : Nat) : Prop := (∀ k j, ¬ k = 114 → σ k j = σ0 k j) ∧ ∀ l, m ≤ l → l ≤ H → ∀ p, p < 4 → σ 114 (4 * l + p) = nI (tw_ct w pc H (H - l) p)
theorem tw_ffS.step {σ0 σ : tw_Mem} {w pc : Nat → Int32} {H m : Nat} (h : tw_ffS σ0 σ w pc H (m + 1)) (hm : m < H) {K : Nat → Nat} (hK : K = fun p => tw_lc w (pc m) (fun q => tw_ct w pc H (H - (m + 1)) q) p) : tw_ffS σ0 (tw_upd (tw_upd (tw_upd (tw_upd σ 114 (4 * m + 0) (nI (K 0))) 114 (4 * m + 1) (nI (K 1))) 114 (4 * m + 2) (nI (K 2))) 114 (4 * m + 3) (nI (K 3))) w pc H m := by
  refine ⟨fun k j g => ?_, fun l l1 l2 p hp => ?_⟩
  · rw [tw_upd_off (by omega), tw_upd_off (by omega), tw_upd_off (by omega), tw_upd_off (by omega)]; exact h.1 k j g
  · by_cases z : l = m
    · subst z
      rw [tw_ct_ln hm]
      rcases (show p = 0 ∨ p = 1 ∨ p = 2 ∨ p = 3 by omega) with rfl | rfl | rfl | rfl
      · rw [tw_upd_off (by omega), tw_upd_off (by omega), tw_upd_off (by omega), tw_upd_at, hK]
      · rw [tw_upd_off (by omega), tw_upd_off (by omega), tw_upd_at, hK]
      · rw [tw_upd_off (by omega), tw_upd_at, hK]
      · rw [tw_upd_at, hK]
    · rw [tw_upd_off (by omega), tw_upd_off (by omega), tw_upd_off (by omega), tw_upd_off (by omega)]; exact h.2 l (by omega) l2 p hp
set_option maxHeartbeats 4000000 in
set_option maxRecDepth 100000 in
theorem tw_l_ff {Q : Option Value → tw_Mem → Prop} {σ0 : tw_Mem} {w pc : Nat → Int32} {H c : Nat} (hc : c < 10) (hH : H ≤ 8) (h32 : σ0 88 32 = nI H) (hw : ∀ h, h < 4 → σ0 91 (4 * c + h) = w h) (hpc : ∀ l, l < H → σ0 113 (10 * l + c) = pc l) {h a : Nat} (hh : h ≤ H) (hQ : ∀ τ v5 v6 v7 v8, tw_ffS σ0 τ w pc H h → tw_P L xs 1 230 97 [.ref 88, .int (nI c), .int (nI h), .int (nI a), .int (nI h + (-1)), v5, v6, v7, v8] [] τ Q) : ∀ (f : Nat) (σ : tw_Mem) (u5 u6 u7 u8 : Value), h + f ≤ H → tw_ffS σ0 σ w pc H (h + f) → tw_P L xs 1 230 22 [.ref 88, .int (nI c), .int (nI h), .int (nI a), .int (nI (h + f) + (-1)), u5, u6, u7, u8] [] σ Q := by
  intro f
  induction f with
  | zero =>
    intro σ u5 u6 u7 u8 hf hI
    show tw_P L xs 1 230 22 [.ref 88, .int (nI c), .int (nI h), .int (nI a), .int (nI h + (-1)), u5, u6, u7, u8] [] σ Q
    have hlt : (nI h + (-1)) < nI h := by
      rcases (show h = 0 ∨ 1 ≤ h by omega) with z | z
      · subst z; decide
      · rw [← tw_sb1, tw_nsub z, tw_nlt (by omega) (by omega)]; omega
    refine tw_sg 2 (i1 := 24) (ls1 := [.ref 88, .int (nI c), .int (nI h), .int (nI a), .int (nI h + (-1)), u5, u6, u7, u8]) (st1 := [.int (nI h), .int (nI h + (-1))]) (σ1 := σ) rfl ?_
    refine tw_biT (c := .lt) rfl (by rw [tw_clt] <;> (exact hlt)) ?_
    show tw_P L xs _ 230 97 [.ref 88, .int (nI c), .int (nI h), .int (nI a), .int (nI h + (-1)), u5, u6, u7, u8] [] σ _
    exact hQ σ _ _ _ _ hI
  | succ f ih =>
    intro σ u5 u6 u7 u8 hf hI
    have hI : tw_ffS σ0 σ w pc H ((h + f) + 1) := hI
    rw [show h + (f + 1) = (h + f) + 1 by omega, tw_m1s]
    refine tw_sg 2 (i1 := 24) (ls1 := [.ref 88, .int (nI c), .int (nI h), .int (nI a), .int (nI (h + f)), u5, u6, u7, u8]) (st1 := [.int (nI h), .int (nI (h + f))]) (σ1 := σ) rfl ?_
    refine tw_biF (c := .lt) rfl (by rw [tw_clt', tw_nlt (by omega) (by omega)] <;> omega) ?_
    show tw_P L xs _ 230 25 [.ref 88, .int (nI c), .int (nI h), .int (nI a), .int (nI (h + f)), u5, u6, u7, u8] [] σ _
    refine tw_sg 4 (i1 := 29) (ls1 := [.ref 88, .int (nI c), .int (nI h), .int (nI a), .int (nI (h + f)), .int (nI 0), u6, u7, u8]) (st1 := [.int (nI 4), .int (nI 0)]) (σ1 := σ) rfl ?_
    refine tw_biF (c := .ge) rfl (by rw [tw_cge', tw_nle (by omega) (by omega)] <;> omega) ?_
    show tw_P L xs _ 230 30 [.ref 88, .int (nI c), .int (nI h), .int (nI a), .int (nI (h + f)), .int (nI 0), u6, u7, u8] [] σ _
    refine tw_l_mp (w := w) (pc := pc) (C := (fun q => tw_ct w pc H (H - (h + f + 1)) q)) (l := h + f) (p := 0) hc (by omega) (by decide) (fun h hh => by repeat (first | exact (hI.1 _ _ (by omega)).trans (hw h hh) | rw [tw_upd_off (by omega)])) (by repeat (first | exact (hI.1 _ _ (by omega)).trans (hpc _ (by omega)) | rw [tw_upd_off (by omega)])) (fun q hq => by repeat (first | exact hI.2 (h + f + 1) (Nat.le_refl _) (by omega) q hq | rw [tw_upd_off (by omega)])) (fun q hq => tw_ct_le _ _) (fun a0 b0 c0 => ?_)
    refine tw_sgn 4 (i1 := 29) (ls0 := [.ref 88, .int (nI c), .int (nI h), .int (nI a), .int (nI (h + f)), .int (nI 0 + nI 1), a0, b0, c0]) (st0 := [.int (nI 4), .int (nI 0 + nI 1)]) (σ0 := (tw_upd σ 114 (4 * (h + f) + 0) (nI (tw_lc w (pc (h + f)) (fun q => tw_ct w pc H (H - (h + f + 1)) q) 0)))) (ls1 := [.ref 88, .int (nI c), .int (nI h), .int (nI a), .int (nI (h + f)), .int (nI 1), a0, b0, c0]) (st1 := [.int (nI 4), .int (nI 1)]) (σ1 := (tw_upd σ 114 (4 * (h + f) + 0) (nI (tw_lc w (pc (h + f)) (fun q => tw_ct w pc H (H - (h + f + 1)) q) 0)))) rfl (by simp only [tw_nadd, tw_nmul]) (by simp only [tw_nadd, tw_nmul]) (rfl) ?_
    refine tw_biF (c := .ge) rfl (by rw [tw_cge', tw_nle (by omega) (by omega)] <;> omega) ?_
    show tw_P L xs _ 230 30 [.ref 88, .int (nI c), .int (nI h), .int (nI a), .int (nI (h + f)), .int (nI 1), a0, b0, c0] [] (tw_upd σ 114 (4 * (h + f) + 0) (nI (tw_lc w (pc (h + f)) (fun q => tw_ct w pc H (H - (h + f + 1)) q) 0))) _
    refine tw_l_mp (w := w) (pc := pc) (C := (fun q => tw_ct w pc H (H - (h + f + 1)) q)) (l := h + f) (p := 1) hc (by omega) (by decide) (fun h hh => by repeat (first | exact (hI.1 _ _ (by omega)).trans (hw h hh) | rw [tw_upd_off (by omega)])) (by repeat (first | exact (hI.1 _ _ (by omega)).trans (hpc _ (by omega)) | rw [tw_upd_off (by omega)])) (fun q hq => by repeat (first | exact hI.2 (h + f + 1) (Nat.le_refl _) (by omega) q hq | rw [tw_upd_off (by omega)])) (fun q hq => tw_ct_le _ _) (fun a1 b1 c1 => ?_)
    refine tw_sgn 4 (i1 := 29) (ls0 := [.ref 88, .int (nI c), .int (nI h), .int (nI a), .int (nI (h + f)), .int (nI 1 + nI 1), a1, b1, c1]) (st0 := [.int (nI 4), .int (nI 1 + nI 1)]) (σ0 := (tw_upd (tw_upd σ 114 (4 * (h + f) + 0) (nI (tw_lc w (pc (h + f)) (fun q => tw_ct w pc H (H - (h + f + 1)) q) 0))) 114 (4 * (h + f) + 1) (nI (tw_lc w (pc (h + f)) (fun q => tw_ct w pc H (H - (h + f + 1)) q) 1)))) (ls1 := [.ref 88, .int (nI c), .int (nI h), .int (nI a), .int (nI (h + f)), .int (nI 2), a1, b1, c1]) (st1 := [.int (nI 4), .int (nI 2)]) (σ1 := (tw_upd (tw_upd σ 114 (4 * (h + f) + 0) (nI (tw_lc w (pc (h + f)) (fun q => tw_ct w pc H (H - (h + f + 1)) q) 0))) 114 (4 * (h + f) + 1) (nI (tw_lc w (pc (h + f)) (fun q => tw_ct w pc H (H - (h + f + 1)) q) 1)))) rfl (by simp only [tw_nadd, tw_nmul]) (by simp only [tw_nadd, tw_nmul]) (rfl) ?_
    refine tw_biF (c := .ge) rfl (by rw [tw_cge', tw_nle (by omega) (by omega)] <;> omega) ?_
    show tw_P L xs _ 230 30 [.ref 88, .int (nI c), .int (nI h), .int (nI a), .int (nI (h + f)), .int (nI 2), a1, b1, c1] [] (tw_upd (tw_upd σ 114 (4 * (h + f) + 0) (nI (tw_lc w (pc (h + f)) (fun q => tw_ct w pc H (H - (h + f + 1)) q) 0))) 114 (4 * (h + f) + 1) (nI (tw_lc w (pc (h + f)) (fun q => tw_ct w pc H (H - (h + f + 1)) q) 1))) _
    refine tw_l_mp (w := w) (pc := pc) (C := (fun q => tw_ct w pc H (H - (h + f + 1)) q)) (l := h + f) (p := 2) hc (by omega) (by decide) (fun h hh => by repeat (first | exact (hI.1 _ _ (by omega)).trans (hw h hh) | rw [tw_upd_off (by omega)])) (by repeat (first | exact (hI.1 _ _ (by omega)).trans (hpc _ (by omega)) | rw [tw_upd_off (by omega)])) (fun q hq => by repeat (first | exact hI.2 (h + f + 1) (Nat.le_refl _) (by omega) q hq | rw [tw_upd_off (by omega)])) (fun q hq => tw_ct_le _ _) (fun a2 b2 c2 => ?_)
    refine tw_sgn 4 (i1 := 29) (ls0 := [.ref 88, .int (nI c), .int (nI h), .int (nI a), .int (nI (h + f)), .int (nI 2 + nI 1), a2, b2, c2]) (st0 := [.int (nI 4), .int (nI 2 + nI 1)]) (σ0 := (tw_upd (tw_upd (tw_upd σ 114 (4 * (h + f) + 0) (nI (tw_lc w (pc (h + f)) (fun q => tw_ct w pc H (H - (h + f + 1)) q) 0))) 114 (4 * (h + f) + 1) (nI (tw_lc w (pc (h + f)) (fun q => tw_ct w pc H (H - (h + f + 1)) q) 1))) 114 (4 * (h + f) + 2) (nI (tw_lc w (pc (h + f)) (fun q => tw_ct w pc H (H - (h + f + 1)) q) 2)))) (ls1 := [.ref 88, .int (nI c), .int (nI h), .int (nI a), .int (nI (h + f)), .int (nI 3), a2, b2, c2]) (st1 := [.int (nI 4), .int (nI 3)]) (σ1 := (tw_upd (tw_upd (tw_upd σ 114 (4 * (h + f) + 0) (nI (tw_lc w (pc (h + f)) (fun q => tw_ct w pc H (H - (h + f + 1)) q) 0))) 114 (4 * (h + f) + 1) (nI (tw_lc w (pc (h + f)) (fun q => tw_ct w pc H (H - (h + f + 1)) q) 1))) 114 (4 * (h + f) + 2) (nI (tw_lc w (pc (h + f)) (fun q => tw_ct w pc H (H - (h + f + 1)) q) 2)))) rfl (by simp only [tw_nadd, tw_nmul]) (by simp only [tw_nadd, tw_nmul]) (rfl) ?_
    refine tw_biF (c := .ge) rfl (by rw [tw_cge', tw_nle (by omega) (by omega)] <;> omega) ?_
    show tw_P L xs _ 230 30 [.ref 88, .int (nI c), .int (nI h), .int (nI a), .int (nI (h + f)), .int (nI 3), a2, b2, c2] [] (tw_upd (tw_upd (tw_upd σ 114 (4 * (h + f) + 0) (nI (tw_lc w (pc (h + f)) (fun q => tw_ct w pc H (H - (h + f + 1)) q) 0))) 114 (4 * (h + f) + 1) (nI (tw_lc w (pc (h + f)) (fun q => tw_ct w pc H (H - (h + f + 1)) q) 1))) 114 (4 * (h + f) + 2) (nI (tw_lc w (pc (h + f)) (fun q => tw_ct w pc H (H - (h + f + 1)) q) 2))) _
    refine tw_l_mp (w := w) (pc := pc) (C := (fun q => tw_ct w pc H (H - (h + f + 1)) q)) (l := h + f) (p := 3) hc (by omega) (by decide) (fun h hh => by repeat (first | exact (hI.1 _ _ (by omega)).trans (hw h hh) | rw [tw_upd_off (by omega)])) (by repeat (first | exact (hI.1 _ _ (by omega)).trans (hpc _ (by omega)) | rw [tw_upd_off (by omega)])) (fun q hq => by repeat (first | exact hI.2 (h + f + 1) (Nat.le_refl _) (by omega) q hq | rw [tw_upd_off (by omega)])) (fun q hq => tw_ct_le _ _) (fun a3 b3 c3 => ?_)
    refine tw_sgn 4 (i1 := 29) (ls0 := [.ref 88, .int (nI c), .int (nI h), .int (nI a), .int (nI (h + f)), .int (nI 3 + nI 1), a3, b3, c3]) (st0 := [.int (nI 4), .int (nI 3 + nI 1)]) (σ0 := (tw_upd (tw_upd (tw_upd (tw_upd σ 114 (4 * (h + f) + 0) (nI (tw_lc w (pc (h + f)) (fun q => tw_ct w pc H (H - (h + f + 1)) q) 0))) 114 (4 * (h + f) + 1) (nI (tw_lc w (pc (h + f)) (fun q => tw_ct w pc H (H - (h + f + 1)) q) 1))) 114 (4 * (h + f) + 2) (nI (tw_lc w (pc (h + f)) (fun q => tw_ct w pc H (H - (h + f + 1)) q) 2))) 114 (4 * (h + f) + 3) (nI (tw_lc w (pc (h + f)) (fun q => tw_ct w pc H (H - (h + f + 1)) q) 3)))) (ls1 := [.ref 88, .int (nI c), .int (nI h), .int (nI a), .int (nI (h + f)), .int (nI 4), a3, b3, c3]) (st1 := [.int (nI 4), .int (nI 4)]) (σ1 := (tw_upd (tw_upd (tw_upd (tw_upd σ 114 (4 * (h + f) + 0) (nI (tw_lc w (pc (h + f)) (fun q => tw_ct w pc H (H - (h + f + 1)) q) 0))) 114 (4 * (h + f) + 1) (nI (tw_lc w (pc (h + f)) (fun q => tw_ct w pc H (H - (h + f + 1)) q) 1))) 114 (4 * (h + f) + 2) (nI (tw_lc w (pc (h + f)) (fun q => tw_ct w pc H (H - (h + f + 1)) q) 2))) 114 (4 * (h + f) + 3) (nI (tw_lc w (pc (h + f)) (fun q => tw_ct w pc H (H - (h + f + 1)) q) 3)))) rfl (by simp only [tw_nadd, tw_nmul]) (by simp only [tw_nadd, tw_nmul]) (rfl) ?_
    refine tw_biT (c := .ge) rfl (by rw [tw_cge, tw_nle (by omega) (by omega)] <;> omega) ?_
    show tw_P L xs _ 230 95 [.ref 88, .int (nI c), .int (nI h), .int (nI a), .int (nI (h + f)), .int (nI 4), a3, b3, c3] [] (tw_upd (tw_upd (tw_upd (tw_upd σ 114 (4 * (h + f) + 0) (nI (tw_lc w (pc (h + f)) (fun q => tw_ct w pc H (H - (h + f + 1)) q) 0))) 114 (4 * (h + f) + 1) (nI (tw_lc w (pc (h + f)) (fun q => tw_ct w pc H (H - (h + f + 1)) q) 1))) 114 (4 * (h + f) + 2) (nI (tw_lc w (pc (h + f)) (fun q => tw_ct w pc H (H - (h + f + 1)) q) 2))) 114 (4 * (h + f) + 3) (nI (tw_lc w (pc (h + f)) (fun q => tw_ct w pc H (H - (h + f + 1)) q) 3))) _
    refine tw_sg 2 (i1 := 22) (ls1 := [.ref 88, .int (nI c), .int (nI h), .int (nI a), .int (nI (h + f) + (-1)), .int (nI 4), a3, b3, c3]) (st1 := []) (σ1 := (tw_upd (tw_upd (tw_upd (tw_upd σ 114 (4 * (h + f) + 0) (nI (tw_lc w (pc (h + f)) (fun q => tw_ct w pc H (H - (h + f + 1)) q) 0))) 114 (4 * (h + f) + 1) (nI (tw_lc w (pc (h + f)) (fun q => tw_ct w pc H (H - (h + f + 1)) q) 1))) 114 (4 * (h + f) + 2) (nI (tw_lc w (pc (h + f)) (fun q => tw_ct w pc H (H - (h + f + 1)) q) 2))) 114 (4 * (h + f) + 3) (nI (tw_lc w (pc (h + f)) (fun q => tw_ct w pc H (H - (h + f + 1)) q) 3)))) rfl ?_
    exact ih _ _ _ _ _ (by omega) (hI.step (by omega) rfl)
set_option maxHeartbeats 4000000 in
set_option maxRecDepth 100000 in
theorem tw_e_ff {w pc : Nat → Int32} {H : Nat} (hc : c < 10) (hH : H ≤ 8) (h32 : σ 88 32 = nI H) (hw : ∀ h, h < 4 → σ 91 (4 * c + h) = w h) (hpc : ∀ l, l < H → σ 113 (10 * l + c) = pc l) (hh : h ≤ H) (ha : a < 4) : tw_E L xs 1 230 [.ref 88, .int (nI c), .int (nI h), .int (nI a)] σ (fun v τ => v = some (.int (nI (tw_ct w pc H (H - h) a))) ∧ ∀ k j, ¬ k = 114 → τ k j = σ k j) := by
  show tw_P L xs _ 230 0 [.ref 88, .int (nI c), .int (nI h), .int (nI a), tw_U, tw_U, tw_U, tw_U, tw_U] [] σ _
  refine tw_sg 4 (i1 := 4) (ls1 := [.ref 88, .int (nI c), .int (nI h), .int (nI a), .int (nI 0), tw_U, tw_U, tw_U, tw_U]) (st1 := [.int (nI 4), .int (nI 0)]) (σ1 := σ) rfl ?_
  refine tw_biF (c := .ge) rfl (by rw [tw_cge', tw_nle (by omega) (by omega)] <;> omega) ?_
  show tw_P L xs _ 230 5 [.ref 88, .int (nI c), .int (nI h), .int (nI a), .int (nI 0), tw_U, tw_U, tw_U, tw_U] [] σ _
  refine tw_sgn 9 (i1 := 14) (ls0 := [.ref 88, .int (nI c), .int (nI h), .int (nI a), .int (nI 0), tw_U, tw_U, tw_U, tw_U]) (st0 := [.int (nI 0), .int ((nI 4 * (σ 88 32)) + nI 0), .ref 114]) (σ0 := σ) (ls1 := [.ref 88, .int (nI c), .int (nI h), .int (nI a), .int (nI 0), tw_U, tw_U, tw_U, tw_U]) (st1 := [.int (nI 0), .int (nI ((4 * H) + 0)), .ref 114]) (σ1 := σ) rfl (rfl) (by simp only [h32, tw_nadd, tw_nmul]) (rfl) ?_
  refine tw_as (k := 114) (j := ((4 * H) + 0)) (len := 36) rfl rfl rfl (rfl) (by omega) (by decide) ?_
  refine tw_sgn 4 (i1 := 4) (ls0 := [.ref 88, .int (nI c), .int (nI h), .int (nI a), .int (nI 0 + nI 1), tw_U, tw_U, tw_U, tw_U]) (st0 := [.int (nI 4), .int (nI 0 + nI 1)]) (σ0 := (tw_upd σ 114 ((4 * H) + 0) (nI 0))) (ls1 := [.ref 88, .int (nI c), .int (nI h), .int (nI a), .int (nI 1), tw_U, tw_U, tw_U, tw_U]) (st1 := [.int (nI 4), .int (nI 1)]) (σ1 := (tw_upd σ 114 ((4 * H) + 0) (nI 0))) rfl (by simp only [tw_nadd, tw_nmul]) (by simp only [tw_nadd, tw_nmul]) (rfl) ?_
  refine tw_biF (c := .ge) rfl (by rw [tw_cge', tw_nle (by omega) (by omega)] <;> omega) ?_
  show tw_P L xs _ 230 5 [.ref 88, .int (nI c), .int (nI h), .int (nI a), .int (nI 1), tw_U, tw_U, tw_U, tw_U] [] (tw_upd σ 114 ((4 * H) + 0) (nI 0)) _
  refine tw_sgn 9 (i1 := 14) (ls0 := [.ref 88, .int (nI c), .int (nI h), .int (nI a), .int (nI 1), tw_U, tw_U, tw_U, tw_U]) (st0 := [.int (nI 0), .int ((nI 4 * (σ 88 32)) + nI 1), .ref 114]) (σ0 := (tw_upd σ 114 ((4 * H) + 0) (nI 0))) (ls1 := [.ref 88, .int (nI c), .int (nI h), .int (nI a), .int (nI 1), tw_U, tw_U, tw_U, tw_U]) (st1 := [.int (nI 0), .int (nI ((4 * H) + 1)), .ref 114]) (σ1 := (tw_upd σ 114 ((4 * H) + 0) (nI 0))) rfl (rfl) (by simp only [h32, tw_nadd, tw_nmul]) (rfl) ?_
  refine tw_as (k := 114) (j := ((4 * H) + 1)) (len := 36) rfl rfl rfl (rfl) (by omega) (by decide) ?_
  refine tw_sgn 4 (i1 := 4) (ls0 := [.ref 88, .int (nI c), .int (nI h), .int (nI a), .int (nI 1 + nI 1), tw_U, tw_U, tw_U, tw_U]) (st0 := [.int (nI 4), .int (nI 1 + nI 1)]) (σ0 := (tw_upd (tw_upd σ 114 ((4 * H) + 0) (nI 0)) 114 ((4 * H) + 1) (nI 0))) (ls1 := [.ref 88, .int (nI c), .int (nI h), .int (nI a), .int (nI 2), tw_U, tw_U, tw_U, tw_U]) (st1 := [.int (nI 4), .int (nI 2)]) (σ1 := (tw_upd (tw_upd σ 114 ((4 * H) + 0) (nI 0)) 114 ((4 * H) + 1) (nI 0))) rfl (by simp only [tw_nadd, tw_nmul]) (by simp only [tw_nadd, tw_nmul]) (rfl) ?_
  refine tw_biF (c := .ge) rfl (by rw [tw_cge', tw_nle (by omega) (by omega)] <;> omega) ?_
  show tw_P L xs _ 230 5 [.ref 88, .int (nI c), .int (nI h), .int (nI a), .int (nI 2), tw_U, tw_U, tw_U, tw_U] [] (tw_upd (tw_upd σ 114 ((4 * H) + 0) (nI 0)) 114 ((4 * H) + 1) (nI 0)) _
  refine tw_sgn 9 (i1 := 14) (ls0 := [.ref 88, .int (nI c), .int (nI h), .int (nI a), .int (nI 2), tw_U, tw_U, tw_U, tw_U]) (st0 := [.int (nI 0), .int ((nI 4 * (σ 88 32)) + nI 2), .ref 114]) (σ0 := (tw_upd (tw_upd σ 114 ((4 * H) + 0) (nI 0)) 114 ((4 * H) + 1) (nI 0))) (ls1 := [.ref 88, .int (nI c), .int (nI h), .int (nI a), .int (nI 2), tw_U, tw_U, tw_U, tw_U]) (st1 := [.int (nI 0), .int (nI ((4 * H) + 2)), .ref 114]) (σ1 := (tw_upd (tw_upd σ 114 ((4 * H) + 0) (nI 0)) 114 ((4 * H) + 1) (nI 0))) rfl (rfl) (by simp only [h32, tw_nadd, tw_nmul]) (rfl) ?_
  refine tw_as (k := 114) (j := ((4 * H) + 2)) (len := 36) rfl rfl rfl (rfl) (by omega) (by decide) ?_
  refine tw_sgn 4 (i1 := 4) (ls0 := [.ref 88, .int (nI c), .int (nI h), .int (nI a), .int (nI 2 + nI 1), tw_U, tw_U, tw_U, tw_U]) (st0 := [.int (nI 4), .int (nI 2 + nI 1)]) (σ0 := (tw_upd (tw_upd (tw_upd σ 114 ((4 * H) + 0) (nI 0)) 114 ((4 * H) + 1) (nI 0)) 114 ((4 * H) + 2) (nI 0))) (ls1 := [.ref 88, .int (nI c), .int (nI h), .int (nI a), .int (nI 3), tw_U, tw_U, tw_U, tw_U]) (st1 := [.int (nI 4), .int (nI 3)]) (σ1 := (tw_upd (tw_upd (tw_upd σ 114 ((4 * H) + 0) (nI 0)) 114 ((4 * H) + 1) (nI 0)) 114 ((4 * H) + 2) (nI 0))) rfl (by simp only [tw_nadd, tw_nmul]) (by simp only [tw_nadd, tw_nmul]) (rfl) ?_
  refine tw_biF (c := .ge) rfl (by rw [tw_cge', tw_nle (by omega) (by omega)] <;> omega) ?_
  show tw_P L xs _ 230 5 [.ref 88, .int (nI c), .int (nI h), .int (nI a), .int (nI 3), tw_U, tw_U, tw_U, tw_U] [] (tw_upd (tw_upd (tw_upd σ 114 ((4 * H) + 0) (nI 0)) 114 ((4 * H) + 1) (nI 0)) 114 ((4 * H) + 2) (nI 0)) _
  refine tw_sgn 9 (i1 := 14) (ls0 := [.ref 88, .int (nI c), .int (nI h), .int (nI a), .int (nI 3), tw_U, tw_U, tw_U, tw_U]) (st0 := [.int (nI 0), .int ((nI 4 * (σ 88 32)) + nI 3), .ref 114]) (σ0 := (tw_upd (tw_upd (tw_upd σ 114 ((4 * H) + 0) (nI 0)) 114 ((4 * H) + 1) (nI 0)) 114 ((4 * H) + 2) (nI 0))) (ls1 := [.ref 88, .int (nI c), .int (nI h), .int (nI a), .int (nI 3), tw_U, tw_U, tw_U, tw_U]) (st1 := [.int (nI 0), .int (nI ((4 * H) + 3)), .ref 114]) (σ1 := (tw_upd (tw_upd (tw_upd σ 114 ((4 * H) + 0) (nI 0)) 114 ((4 * H) + 1) (nI 0)) 114 ((4 * H) + 2) (nI 0))) rfl (rfl) (by simp only [h32, tw_nadd, tw_nmul]) (rfl) ?_
  refine tw_as (k := 114) (j := ((4 * H) + 3)) (len := 36) rfl rfl rfl (rfl) (by omega) (by decide) ?_
  refine tw_sgn 4 (i1 := 4) (ls0 := [.ref 88, .int (nI c), .int (nI h), .int (nI a), .int (nI 3 + nI 1), tw_U, tw_U, tw_U, tw_U]) (st0 := [.int (nI 4), .int (nI 3 + nI 1)]) (σ0 := (tw_upd (tw_upd (tw_upd (tw_upd σ 114 ((4 * H) + 0) (nI 0)) 114 ((4 * H) + 1) (nI 0)) 114 ((4 * H) + 2) (nI 0)) 114 ((4 * H) + 3) (nI 0))) (ls1 := [.ref 88, .int (nI c), .int (nI h), .int (nI a), .int (nI 4), tw_U, tw_U, tw_U, tw_U]) (st1 := [.int (nI 4), .int (nI 4)]) (σ1 := (tw_upd (tw_upd (tw_upd (tw_upd σ 114 ((4 * H) + 0) (nI 0)) 114 ((4 * H) + 1) (nI 0)) 114 ((4 * H) + 2) (nI 0)) 114 ((4 * H) + 3) (nI 0))) rfl (by simp only [tw_nadd, tw_nmul]) (by simp only [tw_nadd, tw_nmul]) (rfl) ?_
  refine tw_biT (c := .ge) rfl (by rw [tw_cge, tw_nle (by omega) (by omega)] <;> omega) ?_
  show tw_P L xs _ 230 17 [.ref 88, .int (nI c), .int (nI h), .int (nI a), .int (nI 4), tw_U, tw_U, tw_U, tw_U] [] (tw_upd (tw_upd (tw_upd (tw_upd σ 114 ((4 * H) + 0) (nI 0)) 114 ((4 * H) + 1) (nI 0)) 114 ((4 * H) + 2) (nI 0)) 114 ((4 * H) + 3) (nI 0)) _
  refine tw_sgn 5 (i1 := 22) (ls0 := [.ref 88, .int (nI c), .int (nI h), .int (nI a), .int ((σ 88 32) - nI 1), tw_U, tw_U, tw_U, tw_U]) (st0 := []) (σ0 := (tw_upd (tw_upd (tw_upd (tw_upd σ 114 ((4 * H) + 0) (nI 0)) 114 ((4 * H) + 1) (nI 0)) 114 ((4 * H) + 2) (nI 0)) 114 ((4 * H) + 3) (nI 0))) (ls1 := [.ref 88, .int (nI c), .int (nI h), .int (nI a), .int (nI H + (-1)), tw_U, tw_U, tw_U, tw_U]) (st1 := []) (σ1 := (tw_upd (tw_upd (tw_upd (tw_upd σ 114 ((4 * H) + 0) (nI 0)) 114 ((4 * H) + 1) (nI 0)) 114 ((4 * H) + 2) (nI 0)) 114 ((4 * H) + 3) (nI 0))) rfl (by simp only [h32, tw_sb1, tw_nadd, tw_nmul]) (rfl) (rfl) ?_
  generalize hσ1 : (tw_upd (tw_upd (tw_upd (tw_upd σ 114 ((4 * H) + 0) (nI 0)) 114 ((4 * H) + 1) (nI 0)) 114 ((4 * H) + 2) (nI 0)) 114 ((4 * H) + 3) (nI 0)) = σ1
  have hS : tw_ffS σ σ1 w pc H H := by
    refine ⟨fun k j g => by rw [← hσ1, tw_upd_off (by omega), tw_upd_off (by omega), tw_upd_off (by omega), tw_upd_off (by omega)], fun l l1 l2 p hp => ?_⟩
    have e : l = H := by omega
    rw [e, Nat.sub_self, tw_ct, ← hσ1]
    rcases (show p = 0 ∨ p = 1 ∨ p = 2 ∨ p = 3 by omega) with rfl | rfl | rfl | rfl
    · repeat (first | exact tw_upd_at | rw [tw_upd_off (by omega)])
    · repeat (first | exact tw_upd_at | rw [tw_upd_off (by omega)])
    · repeat (first | exact tw_upd_at | rw [tw_upd_off (by omega)])
    · repeat (first | exact tw_upd_at | rw [tw_upd_off (by omega)])
  have hHh : h + (H - h) = H := by omega
  have hX := tw_l_ff (L := L) (xs := xs) (Q := fun v τ => v = some (.int (nI (tw_ct w pc H (H - h) a))) ∧ ∀ k j, ¬ k = 114 → τ k j = σ k j) (w := w) (pc := pc) (a := a) hc hH h32 hw hpc hh (fun τ v5 v6 v7 v8 hI => ?_) (H - h) σ1 tw_U tw_U tw_U tw_U (by omega) (by rw [hHh]; exact hS)
  · rw [hHh] at hX; exact hX
  refine tw_sgn 7 (i1 := 104) (ls0 := [.ref 88, .int (nI c), .int (nI h), .int (nI a), .int (nI h + (-1)), v5, v6, v7, v8]) (st0 := [.int ((nI 4 * nI h) + nI a), .ref 114]) (σ0 := τ) (ls1 := [.ref 88, .int (nI c), .int (nI h), .int (nI a), .int (nI h + (-1)), v5, v6, v7, v8]) (st1 := [.int (nI ((4 * h) + a)), .ref 114]) (σ1 := τ) rfl (rfl) (by simp only [tw_nadd, tw_nmul]) (rfl) ?_
  refine tw_al (k := 114) (j := (4 * h + a)) (len := 36) rfl rfl rfl rfl (rfl) (by omega) (by decide) ?_
  rw [(hI.2 h (Nat.le_refl _) hh a ha)]
  refine tw_ri rfl (rfl) ?_
  exact ⟨rfl, hI.1⟩
set_option maxHeartbeats 4000000 in
set_option maxRecDepth 100000 in
theorem tw_e_may {w pc : Nat → Int32} {H : Nat} (hc : c < 10) (hH : H ≤ 8) (h32 : σ 88 32 = nI H) (hw : ∀ h, h < 4 → σ 91 (4 * c + h) = w h) (hpc : ∀ l, l < H → σ 113 (10 * l + c) = pc l) (hh : h < H) (ha : a < 4) (hq : q < 3) (he : e ≤ 1000) : tw_E L xs 2 232 [.ref 88, .int (nI c), .int (nI h), .int (nI a), .int (nI q), .int (nI e)] σ (fun v τ => v = some (.int (tw_bl (w (tw_pl a q) = pc h ∧ 1 + tw_ct w pc H (H - (h + 1)) (tw_pl a q) = e))) ∧ ∀ k j, ¬ k = 114 → τ k j = σ k j) := by
  have hpl := @tw_pl4 a q
  have hm3 := tw_mI_le (t := q)
  have hcl := @tw_ct_le w pc H (H - (h + 1)) (tw_pl a q)
  show tw_P L xs _ 232 0 [.ref 88, .int (nI c), .int (nI h), .int (nI a), .int (nI q), .int (nI e), tw_U] [] σ _
  refine tw_sg 2 (i1 := 2) (ls1 := [.ref 88, .int (nI c), .int (nI h), .int (nI a), .int (nI q), .int (nI e), tw_U]) (st1 := [.int (nI q), .int (nI a)]) (σ1 := σ) rfl ?_
  refine tw_cl1 rfl (rfl) (by decide) (tw_e_moved (t := q) (by omega)) ?_
  rintro _ _ ⟨rfl, rfl⟩
  show tw_P L xs _ 232 3 [.ref 88, .int (nI c), .int (nI h), .int (nI a), .int (nI q), .int (nI e), tw_U] [.int (nI (tw_mI q)), .int (nI a)] σ _
  refine tw_sgn 2 (i1 := 5) (ls0 := [.ref 88, .int (nI c), .int (nI h), .int (nI a), .int (nI q), .int (nI e), tw_U]) (st0 := [.int (nI 4), .int (nI a + nI (tw_mI q))]) (σ0 := σ) (ls1 := [.ref 88, .int (nI c), .int (nI h), .int (nI a), .int (nI q), .int (nI e), tw_U]) (st1 := [.int (nI 4), .int (nI (a + (tw_mI q)))]) (σ1 := σ) rfl (rfl) (by simp only [tw_nadd, tw_nmul]) (rfl) ?_
  refine tw_rm rfl (by decide) ?_
  rw [tw_nrem (by omega) (by decide)]
  refine tw_sgn 8 (i1 := 14) (ls0 := [.ref 88, .int (nI c), .int (nI h), .int (nI a), .int (nI q), .int (nI e), .int (nI (tw_pl a q))]) (st0 := [.int ((nI 4 * nI c) + nI (tw_pl a q)), .ref 91]) (σ0 := σ) (ls1 := [.ref 88, .int (nI c), .int (nI h), .int (nI a), .int (nI q), .int (nI e), .int (nI (tw_pl a q))]) (st1 := [.int (nI ((4 * c) + (tw_pl a q))), .ref 91]) (σ1 := σ) rfl (rfl) (by simp only [tw_nadd, tw_nmul]) (rfl) ?_
  refine tw_al (k := 91) (j := (4 * c + tw_pl a q)) (len := 80) rfl rfl rfl rfl (rfl) (by omega) (by decide) ?_
  rw [(hw _ hpl)]
  refine tw_sgn 7 (i1 := 22) (ls0 := [.ref 88, .int (nI c), .int (nI h), .int (nI a), .int (nI q), .int (nI e), .int (nI (tw_pl a q))]) (st0 := [.int ((nI 10 * nI h) + nI c), .ref 113, .int (w (tw_pl a q))]) (σ0 := σ) (ls1 := [.ref 88, .int (nI c), .int (nI h), .int (nI a), .int (nI q), .int (nI e), .int (nI (tw_pl a q))]) (st1 := [.int (nI ((10 * h) + c)), .ref 113, .int (w (tw_pl a q))]) (σ1 := σ) rfl (rfl) (by simp only [tw_nadd, tw_nmul]) (rfl) ?_
  refine tw_al (k := 113) (j := (10 * h + c)) (len := 80) rfl rfl rfl rfl (rfl) (by omega) (by decide) ?_
  rw [(hpc h hh)]
  refine tw_bi (c := .ne) rfl (fun h1 => ?_) (fun h1 => ?_)
  · rw [tw_cne] at h1
    refine tw_sg 1 (i1 := 38) (ls1 := [.ref 88, .int (nI c), .int (nI h), .int (nI a), .int (nI q), .int (nI e), .int (nI (tw_pl a q))]) (st1 := [.int (nI 0)]) (σ1 := σ) rfl ?_
    refine tw_ri rfl (rfl) ?_
    exact ⟨by rw [tw_blF (fun g => h1 g.1)], fun _ _ _ => rfl⟩
  · rw [tw_cne'] at h1
    refine tw_sgn 7 (i1 := 31) (ls0 := [.ref 88, .int (nI c), .int (nI h), .int (nI a), .int (nI q), .int (nI e), .int (nI (tw_pl a q))]) (st0 := [.int (nI (tw_pl a q)), .int (nI h + nI 1), .int (nI c), .ref 88, .int (nI 1)]) (σ0 := σ) (ls1 := [.ref 88, .int (nI c), .int (nI h), .int (nI a), .int (nI q), .int (nI e), .int (nI (tw_pl a q))]) (st1 := [.int (nI (tw_pl a q)), .int (nI (h + 1)), .int (nI c), .ref 88, .int (nI 1)]) (σ1 := σ) rfl (rfl) (by simp only [tw_nadd, tw_nmul]) (rfl) ?_
    refine tw_cl1 rfl (rfl) (by decide) (tw_e_ff (w := w) (pc := pc) (h := h + 1) hc hH h32 hw hpc (by omega) hpl) ?_
    rintro _ τ ⟨rfl, hf⟩
    show tw_P L xs _ 232 32 [.ref 88, .int (nI c), .int (nI h), .int (nI a), .int (nI q), .int (nI e), .int (nI (tw_pl a q))] [.int (nI (tw_ct w pc H (H - (h + 1)) (tw_pl a q))), .int (nI 1)] τ _
    refine tw_sgn 2 (i1 := 34) (ls0 := [.ref 88, .int (nI c), .int (nI h), .int (nI a), .int (nI q), .int (nI e), .int (nI (tw_pl a q))]) (st0 := [.int (nI e), .int (nI 1 + nI (tw_ct w pc H (H - (h + 1)) (tw_pl a q)))]) (σ0 := τ) (ls1 := [.ref 88, .int (nI c), .int (nI h), .int (nI a), .int (nI q), .int (nI e), .int (nI (tw_pl a q))]) (st1 := [.int (nI e), .int (nI (1 + (tw_ct w pc H (H - (h + 1)) (tw_pl a q))))]) (σ1 := τ) rfl (rfl) (by simp only [tw_nadd, tw_nmul]) (rfl) ?_
    refine tw_bi (c := .ne) rfl (fun h2 => ?_) (fun h2 => ?_)
    · rw [tw_cne] at h2; have h2n := h2; rw [tw_neq (by omega) (by omega)] at h2n
      refine tw_sg 1 (i1 := 38) (ls1 := [.ref 88, .int (nI c), .int (nI h), .int (nI a), .int (nI q), .int (nI e), .int (nI (tw_pl a q))]) (st1 := [.int (nI 0)]) (σ1 := τ) rfl ?_
      refine tw_ri rfl (rfl) ?_
      exact ⟨by rw [tw_blF (fun g => by have := g.2; omega)], fun k j g => hf k j g⟩
    · rw [tw_cne'] at h2; have h2n := h2; rw [tw_neq (by omega) (by omega)] at h2n
      refine tw_sg 2 (i1 := 38) (ls1 := [.ref 88, .int (nI c), .int (nI h), .int (nI a), .int (nI q), .int (nI e), .int (nI (tw_pl a q))]) (st1 := [.int (nI 1)]) (σ1 := τ) rfl ?_
      refine tw_ri rfl (rfl) ?_
      exact ⟨by rw [tw_blT ⟨h1, by omega⟩], fun k j g => hf k j g⟩
set_option maxHeartbeats 4000000 in
set_option maxRecDepth 100000 in
theorem tw_l_draft {Q : Option Value → tw_Mem → Prop} {σ0 : tw_Mem} {w pc : Nat → Int32} {H c : Nat} (hc : c < 10) (hH : H ≤ 8) (h32 : σ0 88 32 = nI H) (hw : ∀ h, h < 4 → σ0 91 (4 * c + h) = w h) (hpc : ∀ l, l < H → σ0 113 (10 * l + c) = pc l) {h p0 : Nat} (hh : h < H) (hp0 : p0 < 4) (hQ : ∀ τ, (∀ k j, ¬ k = 114 → τ k j = σ0 k j) → Q (some (.int (nI (tw_ft w pc H p0 h)))) τ) : ∀ (f i : Nat) (σ : tw_Mem) (v4 : Int32) (u6 u7 : Value), i + f = h + 1 → (∀ k j, ¬ k = 114 → σ k j = σ0 k j) → (∀ j, i = j + 1 → v4 = nI (tw_ft w pc H p0 j)) → (i < H → tw_ct w pc H (H - i) (tw_fp w pc H p0 i) < 1000) → tw_P L xs 3 231 18 [.ref 88, .int (nI h), .int (nI c), .int (nI (tw_fp w pc H p0 i)), .int v4, .int (nI i), u6, u7] [] σ Q := by
  intro f
  induction f with
  | zero =>
    intro i σ v4 u6 u7 hf hF hv hlt
    have hf : i = h + 1 := hf
    refine tw_sg 2 (i1 := 20) (ls1 := [.ref 88, .int (nI h), .int (nI c), .int (nI (tw_fp w pc H p0 i)), .int v4, .int (nI i), u6, u7]) (st1 := [.int (nI h), .int (nI i)]) (σ1 := σ) rfl ?_
    refine tw_biT (c := .gt) rfl (by rw [tw_cgt, tw_nlt (by omega) (by omega)] <;> omega) ?_
    show tw_P L xs _ 231 55 [.ref 88, .int (nI h), .int (nI c), .int (nI (tw_fp w pc H p0 i)), .int v4, .int (nI i), u6, u7] [] σ _
    refine tw_sg 1 (i1 := 56) (ls1 := [.ref 88, .int (nI h), .int (nI c), .int (nI (tw_fp w pc H p0 i)), .int v4, .int (nI i), u6, u7]) (st1 := [.int v4]) (σ1 := σ) rfl ?_
    refine tw_ri rfl (rfl) ?_
    rw [hv h hf]
    exact hQ σ hF
  | succ f ih =>
    intro i σ v4 u6 u7 hf hF hv hlt
    have hlt := hlt (by omega)
    have hfl := @tw_fp_lt w pc H p0 hp0 i
    have hlc := hlt
    rw [tw_ct_ln (by omega)] at hlc
    have hN := tw_fp_nx (by omega) hlt
    have hE : tw_ct w pc H (H - i) (tw_fp w pc H p0 i) = tw_lc w (pc i) (fun q => tw_ct w pc H (H - (i + 1)) q) (tw_fp w pc H p0 i) := tw_ct_ln (by omega)
    by_cases hb1 : (w (tw_pl (tw_fp w pc H p0 i) 1) = pc i ∧ 1 + tw_ct w pc H (H - (i + 1)) (tw_pl (tw_fp w pc H p0 i) 1) = tw_ct w pc H (H - i) (tw_fp w pc H p0 i))
    · by_cases hb2 : (w (tw_pl (tw_fp w pc H p0 i) 2) = pc i ∧ 1 + tw_ct w pc H (H - (i + 1)) (tw_pl (tw_fp w pc H p0 i) 2) = tw_ct w pc H (H - i) (tw_fp w pc H p0 i))
      · skip
        refine tw_sg 2 (i1 := 20) (ls1 := [.ref 88, .int (nI h), .int (nI c), .int (nI (tw_fp w pc H p0 i)), .int v4, .int (nI i), u6, u7]) (st1 := [.int (nI h), .int (nI i)]) (σ1 := σ) rfl ?_
        refine tw_biF (c := .gt) rfl (by rw [tw_cgt', tw_nlt (by omega) (by omega)] <;> omega) ?_
        show tw_P L xs _ 231 21 [.ref 88, .int (nI h), .int (nI c), .int (nI (tw_fp w pc H p0 i)), .int v4, .int (nI i), u6, u7] [] σ _
        refine tw_sg 4 (i1 := 25) (ls1 := [.ref 88, .int (nI h), .int (nI c), .int (nI (tw_fp w pc H p0 i)), .int v4, .int (nI i), u6, u7]) (st1 := [.int (nI (tw_fp w pc H p0 i)), .int (nI i), .int (nI c), .ref 88]) (σ1 := σ) rfl ?_
        refine tw_cl1 rfl (rfl) (by decide) (tw_e_ff (w := w) (pc := pc) (h := i) hc hH ((hF 88 32 (by omega)).trans h32) (fun h hh => (hF 91 _ (by omega)).trans (hw h hh)) (fun l hl => (hF 113 _ (by omega)).trans (hpc l hl)) (by omega) hfl) ?_
        rintro _ τ1 ⟨rfl, hf1⟩
        show tw_P L xs _ 231 26 [.ref 88, .int (nI h), .int (nI c), .int (nI (tw_fp w pc H p0 i)), .int v4, .int (nI i), u6, u7] [.int (nI (tw_ct w pc H (H - i) (tw_fp w pc H p0 i)))] τ1 _
        have hG1 : ∀ k j, ¬ k = 114 → τ1 k j = σ0 k j := fun k j g => (hf1 k j g).trans (hF k j g)
        refine tw_sg 7 (i1 := 33) (ls1 := [.ref 88, .int (nI h), .int (nI c), .int (nI (tw_fp w pc H p0 i)), .int (nI 0), .int (nI i), .int (nI (tw_ct w pc H (H - i) (tw_fp w pc H p0 i))), .int (nI 2)]) (st1 := [.int (nI 1), .int (nI 2)]) (σ1 := τ1) rfl ?_
        refine tw_biF (c := .lt) rfl (by rw [tw_clt', tw_nlt (by omega) (by omega)] <;> omega) ?_
        show tw_P L xs _ 231 34 [.ref 88, .int (nI h), .int (nI c), .int (nI (tw_fp w pc H p0 i)), .int (nI 0), .int (nI i), .int (nI (tw_ct w pc H (H - i) (tw_fp w pc H p0 i))), .int (nI 2)] [] τ1 _
        refine tw_sg 6 (i1 := 40) (ls1 := [.ref 88, .int (nI h), .int (nI c), .int (nI (tw_fp w pc H p0 i)), .int (nI 0), .int (nI i), .int (nI (tw_ct w pc H (H - i) (tw_fp w pc H p0 i))), .int (nI 2)]) (st1 := [.int (nI (tw_ct w pc H (H - i) (tw_fp w pc H p0 i))), .int (nI 2), .int (nI (tw_fp w pc H p0 i)), .int (nI i), .int (nI c), .ref 88]) (σ1 := τ1) rfl ?_
        refine tw_cl1 rfl (rfl) (by decide) (tw_E_mono (tw_e_may (w := w) (pc := pc) (h := i) (q := 2) hc hH ((hG1 88 32 (by omega)).trans h32) (fun h hh => (hG1 91 _ (by omega)).trans (hw h hh)) (fun l hl => (hG1 113 _ (by omega)).trans (hpc l hl)) (by omega) hfl (by decide) (by omega)) (fun v σ1 z => (⟨z.1.trans (by rw [tw_blT hb2]), z.2⟩ : v = some (.int (nI 1)) ∧ ∀ k j, ¬ k = 114 → σ1 k j = τ1 k j))) ?_
        rintro _ τ2 ⟨rfl, hf2⟩
        show tw_P L xs _ 231 41 [.ref 88, .int (nI h), .int (nI c), .int (nI (tw_fp w pc H p0 i)), .int (nI 0), .int (nI i), .int (nI (tw_ct w pc H (H - i) (tw_fp w pc H p0 i))), .int (nI 2)] [.int (nI 1)] τ2 _
        have hG2 : ∀ k j, ¬ k = 114 → τ2 k j = σ0 k j := fun k j g => (hf2 k j g).trans (hG1 k j g)
        refine tw_bzF (c := .eq) rfl (by rw [tw_ceq', tw_neq (by omega) (by omega)] <;> omega) ?_
        show tw_P L xs _ 231 42 [.ref 88, .int (nI h), .int (nI c), .int (nI (tw_fp w pc H p0 i)), .int (nI 0), .int (nI i), .int (nI (tw_ct w pc H (H - i) (tw_fp w pc H p0 i))), .int (nI 2)] [] τ2 _
        refine tw_sgn 6 (i1 := 33) (ls0 := [.ref 88, .int (nI h), .int (nI c), .int (nI (tw_fp w pc H p0 i)), .int (nI 2), .int (nI i), .int (nI (tw_ct w pc H (H - i) (tw_fp w pc H p0 i))), .int (nI 2 + (-1))]) (st0 := [.int (nI 1), .int (nI 2 + (-1))]) (σ0 := τ2) (ls1 := [.ref 88, .int (nI h), .int (nI c), .int (nI (tw_fp w pc H p0 i)), .int (nI 2), .int (nI i), .int (nI (tw_ct w pc H (H - i) (tw_fp w pc H p0 i))), .int (nI 1)]) (st1 := [.int (nI 1), .int (nI 1)]) (σ1 := τ2) rfl (by simp only [tw_kd21, tw_nadd, tw_nmul]) (by simp only [tw_kd21, tw_nadd, tw_nmul]) (rfl) ?_
        refine tw_biF (c := .lt) rfl (by rw [tw_clt', tw_nlt (by omega) (by omega)] <;> omega) ?_
        show tw_P L xs _ 231 34 [.ref 88, .int (nI h), .int (nI c), .int (nI (tw_fp w pc H p0 i)), .int (nI 2), .int (nI i), .int (nI (tw_ct w pc H (H - i) (tw_fp w pc H p0 i))), .int (nI 1)] [] τ2 _
        refine tw_sg 6 (i1 := 40) (ls1 := [.ref 88, .int (nI h), .int (nI c), .int (nI (tw_fp w pc H p0 i)), .int (nI 2), .int (nI i), .int (nI (tw_ct w pc H (H - i) (tw_fp w pc H p0 i))), .int (nI 1)]) (st1 := [.int (nI (tw_ct w pc H (H - i) (tw_fp w pc H p0 i))), .int (nI 1), .int (nI (tw_fp w pc H p0 i)), .int (nI i), .int (nI c), .ref 88]) (σ1 := τ2) rfl ?_
        refine tw_cl1 rfl (rfl) (by decide) (tw_E_mono (tw_e_may (w := w) (pc := pc) (h := i) (q := 1) hc hH ((hG2 88 32 (by omega)).trans h32) (fun h hh => (hG2 91 _ (by omega)).trans (hw h hh)) (fun l hl => (hG2 113 _ (by omega)).trans (hpc l hl)) (by omega) hfl (by decide) (by omega)) (fun v σ1 z => (⟨z.1.trans (by rw [tw_blT hb1]), z.2⟩ : v = some (.int (nI 1)) ∧ ∀ k j, ¬ k = 114 → σ1 k j = τ2 k j))) ?_
        rintro _ τ3 ⟨rfl, hf3⟩
        show tw_P L xs _ 231 41 [.ref 88, .int (nI h), .int (nI c), .int (nI (tw_fp w pc H p0 i)), .int (nI 2), .int (nI i), .int (nI (tw_ct w pc H (H - i) (tw_fp w pc H p0 i))), .int (nI 1)] [.int (nI 1)] τ3 _
        have hG3 : ∀ k j, ¬ k = 114 → τ3 k j = σ0 k j := fun k j g => (hf3 k j g).trans (hG2 k j g)
        refine tw_bzF (c := .eq) rfl (by rw [tw_ceq', tw_neq (by omega) (by omega)] <;> omega) ?_
        show tw_P L xs _ 231 42 [.ref 88, .int (nI h), .int (nI c), .int (nI (tw_fp w pc H p0 i)), .int (nI 2), .int (nI i), .int (nI (tw_ct w pc H (H - i) (tw_fp w pc H p0 i))), .int (nI 1)] [] τ3 _
        refine tw_sgn 6 (i1 := 33) (ls0 := [.ref 88, .int (nI h), .int (nI c), .int (nI (tw_fp w pc H p0 i)), .int (nI 1), .int (nI i), .int (nI (tw_ct w pc H (H - i) (tw_fp w pc H p0 i))), .int (nI 1 + (-1))]) (st0 := [.int (nI 1), .int (nI 1 + (-1))]) (σ0 := τ3) (ls1 := [.ref 88, .int (nI h), .int (nI c), .int (nI (tw_fp w pc H p0 i)), .int (nI 1), .int (nI i), .int (nI (tw_ct w pc H (H - i) (tw_fp w pc H p0 i))), .int (nI 0)]) (st1 := [.int (nI 1), .int (nI 0)]) (σ1 := τ3) rfl (by simp only [tw_kd10, tw_nadd, tw_nmul]) (by simp only [tw_kd10, tw_nadd, tw_nmul]) (rfl) ?_
        refine tw_biT (c := .lt) rfl (by rw [tw_clt, tw_nlt (by omega) (by omega)] <;> omega) ?_
        show tw_P L xs _ 231 46 [.ref 88, .int (nI h), .int (nI c), .int (nI (tw_fp w pc H p0 i)), .int (nI 1), .int (nI i), .int (nI (tw_ct w pc H (H - i) (tw_fp w pc H p0 i))), .int (nI 0)] [] τ3 _
        refine tw_sg 2 (i1 := 48) (ls1 := [.ref 88, .int (nI h), .int (nI c), .int (nI (tw_fp w pc H p0 i)), .int (nI 1), .int (nI i), .int (nI (tw_ct w pc H (H - i) (tw_fp w pc H p0 i))), .int (nI 0)]) (st1 := [.int (nI 1), .int (nI (tw_fp w pc H p0 i))]) (σ1 := τ3) rfl ?_
        refine tw_cl1 rfl (rfl) (by decide) (tw_e_moved (t := 1) (by decide)) ?_
        rintro _ _ ⟨rfl, rfl⟩
        show tw_P L xs _ 231 49 [.ref 88, .int (nI h), .int (nI c), .int (nI (tw_fp w pc H p0 i)), .int (nI 1), .int (nI i), .int (nI (tw_ct w pc H (H - i) (tw_fp w pc H p0 i))), .int (nI 0)] [.int (nI (tw_mI 1)), .int (nI (tw_fp w pc H p0 i))] τ3 _
        refine tw_sgn 2 (i1 := 51) (ls0 := [.ref 88, .int (nI h), .int (nI c), .int (nI (tw_fp w pc H p0 i)), .int (nI 1), .int (nI i), .int (nI (tw_ct w pc H (H - i) (tw_fp w pc H p0 i))), .int (nI 0)]) (st0 := [.int (nI 4), .int (nI (tw_fp w pc H p0 i) + nI (tw_mI 1))]) (σ0 := τ3) (ls1 := [.ref 88, .int (nI h), .int (nI c), .int (nI (tw_fp w pc H p0 i)), .int (nI 1), .int (nI i), .int (nI (tw_ct w pc H (H - i) (tw_fp w pc H p0 i))), .int (nI 0)]) (st1 := [.int (nI 4), .int (nI ((tw_fp w pc H p0 i) + (tw_mI 1)))]) (σ1 := τ3) rfl (rfl) (by simp only [tw_nadd, tw_nmul]) (rfl) ?_
        refine tw_rm rfl (by decide) ?_
        rw [tw_nrem (by have := @tw_mI_le 1; omega) (by decide)]
        refine tw_sgn 3 (i1 := 18) (ls0 := [.ref 88, .int (nI h), .int (nI c), .int (nI (tw_pl (tw_fp w pc H p0 i) 1)), .int (nI 1), .int (nI i + nI 1), .int (nI (tw_ct w pc H (H - i) (tw_fp w pc H p0 i))), .int (nI 0)]) (st0 := []) (σ0 := τ3) (ls1 := [.ref 88, .int (nI h), .int (nI c), .int (nI (tw_pl (tw_fp w pc H p0 i) 1)), .int (nI 1), .int (nI (i + 1)), .int (nI (tw_ct w pc H (H - i) (tw_fp w pc H p0 i))), .int (nI 0)]) (st1 := []) (σ1 := τ3) rfl (by simp only [tw_nadd, tw_nmul]) (rfl) (rfl) ?_
        have eT : tw_ft w pc H p0 i = 1 := tw_bt1 hlc ⟨hb1.1, hb1.2.trans hE⟩
        have eP : tw_fp w pc H p0 (i + 1) = tw_pl (tw_fp w pc H p0 i) 1 := congrArg (tw_pl (tw_fp w pc H p0 i)) eT
        have hR := ih (i + 1) τ3 (nI 1) (.int (nI (tw_ct w pc H (H - i) (tw_fp w pc H p0 i)))) (.int (nI 0)) (by omega) hG3 (fun j hj => by rw [show j = i by omega, eT]) (fun _ => hN)
        rw [eP] at hR
        exact hR
      · skip
        refine tw_sg 2 (i1 := 20) (ls1 := [.ref 88, .int (nI h), .int (nI c), .int (nI (tw_fp w pc H p0 i)), .int v4, .int (nI i), u6, u7]) (st1 := [.int (nI h), .int (nI i)]) (σ1 := σ) rfl ?_
        refine tw_biF (c := .gt) rfl (by rw [tw_cgt', tw_nlt (by omega) (by omega)] <;> omega) ?_
        show tw_P L xs _ 231 21 [.ref 88, .int (nI h), .int (nI c), .int (nI (tw_fp w pc H p0 i)), .int v4, .int (nI i), u6, u7] [] σ _
        refine tw_sg 4 (i1 := 25) (ls1 := [.ref 88, .int (nI h), .int (nI c), .int (nI (tw_fp w pc H p0 i)), .int v4, .int (nI i), u6, u7]) (st1 := [.int (nI (tw_fp w pc H p0 i)), .int (nI i), .int (nI c), .ref 88]) (σ1 := σ) rfl ?_
        refine tw_cl1 rfl (rfl) (by decide) (tw_e_ff (w := w) (pc := pc) (h := i) hc hH ((hF 88 32 (by omega)).trans h32) (fun h hh => (hF 91 _ (by omega)).trans (hw h hh)) (fun l hl => (hF 113 _ (by omega)).trans (hpc l hl)) (by omega) hfl) ?_
        rintro _ τ1 ⟨rfl, hf1⟩
        show tw_P L xs _ 231 26 [.ref 88, .int (nI h), .int (nI c), .int (nI (tw_fp w pc H p0 i)), .int v4, .int (nI i), u6, u7] [.int (nI (tw_ct w pc H (H - i) (tw_fp w pc H p0 i)))] τ1 _
        have hG1 : ∀ k j, ¬ k = 114 → τ1 k j = σ0 k j := fun k j g => (hf1 k j g).trans (hF k j g)
        refine tw_sg 7 (i1 := 33) (ls1 := [.ref 88, .int (nI h), .int (nI c), .int (nI (tw_fp w pc H p0 i)), .int (nI 0), .int (nI i), .int (nI (tw_ct w pc H (H - i) (tw_fp w pc H p0 i))), .int (nI 2)]) (st1 := [.int (nI 1), .int (nI 2)]) (σ1 := τ1) rfl ?_
        refine tw_biF (c := .lt) rfl (by rw [tw_clt', tw_nlt (by omega) (by omega)] <;> omega) ?_
        show tw_P L xs _ 231 34 [.ref 88, .int (nI h), .int (nI c), .int (nI (tw_fp w pc H p0 i)), .int (nI 0), .int (nI i), .int (nI (tw_ct w pc H (H - i) (tw_fp w pc H p0 i))), .int (nI 2)] [] τ1 _
        refine tw_sg 6 (i1 := 40) (ls1 := [.ref 88, .int (nI h), .int (nI c), .int (nI (tw_fp w pc H p0 i)), .int (nI 0), .int (nI i), .int (nI (tw_ct w pc H (H - i) (tw_fp w pc H p0 i))), .int (nI 2)]) (st1 := [.int (nI (tw_ct w pc H (H - i) (tw_fp w pc H p0 i))), .int (nI 2), .int (nI (tw_fp w pc H p0 i)), .int (nI i), .int (nI c), .ref 88]) (σ1 := τ1) rfl ?_
        refine tw_cl1 rfl (rfl) (by decide) (tw_E_mono (tw_e_may (w := w) (pc := pc) (h := i) (q := 2) hc hH ((hG1 88 32 (by omega)).trans h32) (fun h hh => (hG1 91 _ (by omega)).trans (hw h hh)) (fun l hl => (hG1 113 _ (by omega)).trans (hpc l hl)) (by omega) hfl (by decide) (by omega)) (fun v σ1 z => (⟨z.1.trans (by rw [tw_blF hb2]), z.2⟩ : v = some (.int (nI 0)) ∧ ∀ k j, ¬ k = 114 → σ1 k j = τ1 k j))) ?_
        rintro _ τ2 ⟨rfl, hf2⟩
        show tw_P L xs _ 231 41 [.ref 88, .int (nI h), .int (nI c), .int (nI (tw_fp w pc H p0 i)), .int (nI 0), .int (nI i), .int (nI (tw_ct w pc H (H - i) (tw_fp w pc H p0 i))), .int (nI 2)] [.int (nI 0)] τ2 _
        have hG2 : ∀ k j, ¬ k = 114 → τ2 k j = σ0 k j := fun k j g => (hf2 k j g).trans (hG1 k j g)
        refine tw_bzT (c := .eq) rfl (by rw [tw_ceq, tw_neq (by omega) (by omega)] <;> omega) ?_
        show tw_P L xs _ 231 44 [.ref 88, .int (nI h), .int (nI c), .int (nI (tw_fp w pc H p0 i)), .int (nI 0), .int (nI i), .int (nI (tw_ct w pc H (H - i) (tw_fp w pc H p0 i))), .int (nI 2)] [] τ2 _
        refine tw_sgn 4 (i1 := 33) (ls0 := [.ref 88, .int (nI h), .int (nI c), .int (nI (tw_fp w pc H p0 i)), .int (nI 0), .int (nI i), .int (nI (tw_ct w pc H (H - i) (tw_fp w pc H p0 i))), .int (nI 2 + (-1))]) (st0 := [.int (nI 1), .int (nI 2 + (-1))]) (σ0 := τ2) (ls1 := [.ref 88, .int (nI h), .int (nI c), .int (nI (tw_fp w pc H p0 i)), .int (nI 0), .int (nI i), .int (nI (tw_ct w pc H (H - i) (tw_fp w pc H p0 i))), .int (nI 1)]) (st1 := [.int (nI 1), .int (nI 1)]) (σ1 := τ2) rfl (by simp only [tw_kd21, tw_nadd, tw_nmul]) (by simp only [tw_kd21, tw_nadd, tw_nmul]) (rfl) ?_
        refine tw_biF (c := .lt) rfl (by rw [tw_clt', tw_nlt (by omega) (by omega)] <;> omega) ?_
        show tw_P L xs _ 231 34 [.ref 88, .int (nI h), .int (nI c), .int (nI (tw_fp w pc H p0 i)), .int (nI 0), .int (nI i), .int (nI (tw_ct w pc H (H - i) (tw_fp w pc H p0 i))), .int (nI 1)] [] τ2 _
        refine tw_sg 6 (i1 := 40) (ls1 := [.ref 88, .int (nI h), .int (nI c), .int (nI (tw_fp w pc H p0 i)), .int (nI 0), .int (nI i), .int (nI (tw_ct w pc H (H - i) (tw_fp w pc H p0 i))), .int (nI 1)]) (st1 := [.int (nI (tw_ct w pc H (H - i) (tw_fp w pc H p0 i))), .int (nI 1), .int (nI (tw_fp w pc H p0 i)), .int (nI i), .int (nI c), .ref 88]) (σ1 := τ2) rfl ?_
        refine tw_cl1 rfl (rfl) (by decide) (tw_E_mono (tw_e_may (w := w) (pc := pc) (h := i) (q := 1) hc hH ((hG2 88 32 (by omega)).trans h32) (fun h hh => (hG2 91 _ (by omega)).trans (hw h hh)) (fun l hl => (hG2 113 _ (by omega)).trans (hpc l hl)) (by omega) hfl (by decide) (by omega)) (fun v σ1 z => (⟨z.1.trans (by rw [tw_blT hb1]), z.2⟩ : v = some (.int (nI 1)) ∧ ∀ k j, ¬ k = 114 → σ1 k j = τ2 k j))) ?_
        rintro _ τ3 ⟨rfl, hf3⟩
        show tw_P L xs _ 231 41 [.ref 88, .int (nI h), .int (nI c), .int (nI (tw_fp w pc H p0 i)), .int (nI 0), .int (nI i), .int (nI (tw_ct w pc H (H - i) (tw_fp w pc H p0 i))), .int (nI 1)] [.int (nI 1)] τ3 _
        have hG3 : ∀ k j, ¬ k = 114 → τ3 k j = σ0 k j := fun k j g => (hf3 k j g).trans (hG2 k j g)
        refine tw_bzF (c := .eq) rfl (by rw [tw_ceq', tw_neq (by omega) (by omega)] <;> omega) ?_
        show tw_P L xs _ 231 42 [.ref 88, .int (nI h), .int (nI c), .int (nI (tw_fp w pc H p0 i)), .int (nI 0), .int (nI i), .int (nI (tw_ct w pc H (H - i) (tw_fp w pc H p0 i))), .int (nI 1)] [] τ3 _
        refine tw_sgn 6 (i1 := 33) (ls0 := [.ref 88, .int (nI h), .int (nI c), .int (nI (tw_fp w pc H p0 i)), .int (nI 1), .int (nI i), .int (nI (tw_ct w pc H (H - i) (tw_fp w pc H p0 i))), .int (nI 1 + (-1))]) (st0 := [.int (nI 1), .int (nI 1 + (-1))]) (σ0 := τ3) (ls1 := [.ref 88, .int (nI h), .int (nI c), .int (nI (tw_fp w pc H p0 i)), .int (nI 1), .int (nI i), .int (nI (tw_ct w pc H (H - i) (tw_fp w pc H p0 i))), .int (nI 0)]) (st1 := [.int (nI 1), .int (nI 0)]) (σ1 := τ3) rfl (by simp only [tw_kd10, tw_nadd, tw_nmul]) (by simp only [tw_kd10, tw_nadd, tw_nmul]) (rfl) ?_
        refine tw_biT (c := .lt) rfl (by rw [tw_clt, tw_nlt (by omega) (by omega)] <;> omega) ?_
        show tw_P L xs _ 231 46 [.ref 88, .int (nI h), .int (nI c), .int (nI (tw_fp w pc H p0 i)), .int (nI 1), .int (nI i), .int (nI (tw_ct w pc H (H - i) (tw_fp w pc H p0 i))), .int (nI 0)] [] τ3 _
        refine tw_sg 2 (i1 := 48) (ls1 := [.ref 88, .int (nI h), .int (nI c), .int (nI (tw_fp w pc H p0 i)), .int (nI 1), .int (nI i), .int (nI (tw_ct w pc H (H - i) (tw_fp w pc H p0 i))), .int (nI 0)]) (st1 := [.int (nI 1), .int (nI (tw_fp w pc H p0 i))]) (σ1 := τ3) rfl ?_
        refine tw_cl1 rfl (rfl) (by decide) (tw_e_moved (t := 1) (by decide)) ?_
        rintro _ _ ⟨rfl, rfl⟩
        show tw_P L xs _ 231 49 [.ref 88, .int (nI h), .int (nI c), .int (nI (tw_fp w pc H p0 i)), .int (nI 1), .int (nI i), .int (nI (tw_ct w pc H (H - i) (tw_fp w pc H p0 i))), .int (nI 0)] [.int (nI (tw_mI 1)), .int (nI (tw_fp w pc H p0 i))] τ3 _
        refine tw_sgn 2 (i1 := 51) (ls0 := [.ref 88, .int (nI h), .int (nI c), .int (nI (tw_fp w pc H p0 i)), .int (nI 1), .int (nI i), .int (nI (tw_ct w pc H (H - i) (tw_fp w pc H p0 i))), .int (nI 0)]) (st0 := [.int (nI 4), .int (nI (tw_fp w pc H p0 i) + nI (tw_mI 1))]) (σ0 := τ3) (ls1 := [.ref 88, .int (nI h), .int (nI c), .int (nI (tw_fp w pc H p0 i)), .int (nI 1), .int (nI i), .int (nI (tw_ct w pc H (H - i) (tw_fp w pc H p0 i))), .int (nI 0)]) (st1 := [.int (nI 4), .int (nI ((tw_fp w pc H p0 i) + (tw_mI 1)))]) (σ1 := τ3) rfl (rfl) (by simp only [tw_nadd, tw_nmul]) (rfl) ?_
        refine tw_rm rfl (by decide) ?_
        rw [tw_nrem (by have := @tw_mI_le 1; omega) (by decide)]
        refine tw_sgn 3 (i1 := 18) (ls0 := [.ref 88, .int (nI h), .int (nI c), .int (nI (tw_pl (tw_fp w pc H p0 i) 1)), .int (nI 1), .int (nI i + nI 1), .int (nI (tw_ct w pc H (H - i) (tw_fp w pc H p0 i))), .int (nI 0)]) (st0 := []) (σ0 := τ3) (ls1 := [.ref 88, .int (nI h), .int (nI c), .int (nI (tw_pl (tw_fp w pc H p0 i) 1)), .int (nI 1), .int (nI (i + 1)), .int (nI (tw_ct w pc H (H - i) (tw_fp w pc H p0 i))), .int (nI 0)]) (st1 := []) (σ1 := τ3) rfl (by simp only [tw_nadd, tw_nmul]) (rfl) (rfl) ?_
        have eT : tw_ft w pc H p0 i = 1 := tw_bt1 hlc ⟨hb1.1, hb1.2.trans hE⟩
        have eP : tw_fp w pc H p0 (i + 1) = tw_pl (tw_fp w pc H p0 i) 1 := congrArg (tw_pl (tw_fp w pc H p0 i)) eT
        have hR := ih (i + 1) τ3 (nI 1) (.int (nI (tw_ct w pc H (H - i) (tw_fp w pc H p0 i)))) (.int (nI 0)) (by omega) hG3 (fun j hj => by rw [show j = i by omega, eT]) (fun _ => hN)
        rw [eP] at hR
        exact hR
    · by_cases hb2 : (w (tw_pl (tw_fp w pc H p0 i) 2) = pc i ∧ 1 + tw_ct w pc H (H - (i + 1)) (tw_pl (tw_fp w pc H p0 i) 2) = tw_ct w pc H (H - i) (tw_fp w pc H p0 i))
      · skip
        refine tw_sg 2 (i1 := 20) (ls1 := [.ref 88, .int (nI h), .int (nI c), .int (nI (tw_fp w pc H p0 i)), .int v4, .int (nI i), u6, u7]) (st1 := [.int (nI h), .int (nI i)]) (σ1 := σ) rfl ?_
        refine tw_biF (c := .gt) rfl (by rw [tw_cgt', tw_nlt (by omega) (by omega)] <;> omega) ?_
        show tw_P L xs _ 231 21 [.ref 88, .int (nI h), .int (nI c), .int (nI (tw_fp w pc H p0 i)), .int v4, .int (nI i), u6, u7] [] σ _
        refine tw_sg 4 (i1 := 25) (ls1 := [.ref 88, .int (nI h), .int (nI c), .int (nI (tw_fp w pc H p0 i)), .int v4, .int (nI i), u6, u7]) (st1 := [.int (nI (tw_fp w pc H p0 i)), .int (nI i), .int (nI c), .ref 88]) (σ1 := σ) rfl ?_
        refine tw_cl1 rfl (rfl) (by decide) (tw_e_ff (w := w) (pc := pc) (h := i) hc hH ((hF 88 32 (by omega)).trans h32) (fun h hh => (hF 91 _ (by omega)).trans (hw h hh)) (fun l hl => (hF 113 _ (by omega)).trans (hpc l hl)) (by omega) hfl) ?_
        rintro _ τ1 ⟨rfl, hf1⟩
        show tw_P L xs _ 231 26 [.ref 88, .int (nI h), .int (nI c), .int (nI (tw_fp w pc H p0 i)), .int v4, .int (nI i), u6, u7] [.int (nI (tw_ct w pc H (H - i) (tw_fp w pc H p0 i)))] τ1 _
        have hG1 : ∀ k j, ¬ k = 114 → τ1 k j = σ0 k j := fun k j g => (hf1 k j g).trans (hF k j g)
        refine tw_sg 7 (i1 := 33) (ls1 := [.ref 88, .int (nI h), .int (nI c), .int (nI (tw_fp w pc H p0 i)), .int (nI 0), .int (nI i), .int (nI (tw_ct w pc H (H - i) (tw_fp w pc H p0 i))), .int (nI 2)]) (st1 := [.int (nI 1), .int (nI 2)]) (σ1 := τ1) rfl ?_
        refine tw_biF (c := .lt) rfl (by rw [tw_clt', tw_nlt (by omega) (by omega)] <;> omega) ?_
        show tw_P L xs _ 231 34 [.ref 88, .int (nI h), .int (nI c), .int (nI (tw_fp w pc H p0 i)), .int (nI 0), .int (nI i), .int (nI (tw_ct w pc H (H - i) (tw_fp w pc H p0 i))), .int (nI 2)] [] τ1 _
        refine tw_sg 6 (i1 := 40) (ls1 := [.ref 88, .int (nI h), .int (nI c), .int (nI (tw_fp w pc H p0 i)), .int (nI 0), .int (nI i), .int (nI (tw_ct w pc H (H - i) (tw_fp w pc H p0 i))), .int (nI 2)]) (st1 := [.int (nI (tw_ct w pc H (H - i) (tw_fp w pc H p0 i))), .int (nI 2), .int (nI (tw_fp w pc H p0 i)), .int (nI i), .int (nI c), .ref 88]) (σ1 := τ1) rfl ?_
        refine tw_cl1 rfl (rfl) (by decide) (tw_E_mono (tw_e_may (w := w) (pc := pc) (h := i) (q := 2) hc hH ((hG1 88 32 (by omega)).trans h32) (fun h hh => (hG1 91 _ (by omega)).trans (hw h hh)) (fun l hl => (hG1 113 _ (by omega)).trans (hpc l hl)) (by omega) hfl (by decide) (by omega)) (fun v σ1 z => (⟨z.1.trans (by rw [tw_blT hb2]), z.2⟩ : v = some (.int (nI 1)) ∧ ∀ k j, ¬ k = 114 → σ1 k j = τ1 k j))) ?_
        rintro _ τ2 ⟨rfl, hf2⟩
        show tw_P L xs _ 231 41 [.ref 88, .int (nI h), .int (nI c), .int (nI (tw_fp w pc H p0 i)), .int (nI 0), .int (nI i), .int (nI (tw_ct w pc H (H - i) (tw_fp w pc H p0 i))), .int (nI 2)] [.int (nI 1)] τ2 _
        have hG2 : ∀ k j, ¬ k = 114 → τ2 k j = σ0 k j := fun k j g => (hf2 k j g).trans (hG1 k j g)
        refine tw_bzF (c := .eq) rfl (by rw [tw_ceq', tw_neq (by omega) (by omega)] <;> omega) ?_
        show tw_P L xs _ 231 42 [.ref 88, .int (nI h), .int (nI c), .int (nI (tw_fp w pc H p0 i)), .int (nI 0), .int (nI i), .int (nI (tw_ct w pc H (H - i) (tw_fp w pc H p0 i))), .int (nI 2)] [] τ2 _
        refine tw_sgn 6 (i1 := 33) (ls0 := [.ref 88, .int (nI h), .int (nI c), .int (nI (tw_fp w pc H p0 i)), .int (nI 2), .int (nI i), .int (nI (tw_ct w pc H (H - i) (tw_fp w pc H p0 i))), .int (nI 2 + (-1))]) (st0 := [.int (nI 1), .int (nI 2 + (-1))]) (σ0 := τ2) (ls1 := [.ref 88, .int (nI h), .int (nI c), .int (nI (tw_fp w pc H p0 i)), .int (nI 2), .int (nI i), .int (nI (tw_ct w pc H (H - i) (tw_fp w pc H p0 i))), .int (nI 1)]) (st1 := [.int (nI 1), .int (nI 1)]) (σ1 := τ2) rfl (by simp only [tw_kd21, tw_nadd, tw_nmul]) (by simp only [tw_kd21, tw_nadd, tw_nmul]) (rfl) ?_
        refine tw_biF (c := .lt) rfl (by rw [tw_clt', tw_nlt (by omega) (by omega)] <;> omega) ?_
        show tw_P L xs _ 231 34 [.ref 88, .int (nI h), .int (nI c), .int (nI (tw_fp w pc H p0 i)), .int (nI 2), .int (nI i), .int (nI (tw_ct w pc H (H - i) (tw_fp w pc H p0 i))), .int (nI 1)] [] τ2 _
        refine tw_sg 6 (i1 := 40) (ls1 := [.ref 88, .int (nI h), .int (nI c), .int (nI (tw_fp w pc H p0 i)), .int (nI 2), .int (nI i), .int (nI (tw_ct w pc H (H - i) (tw_fp w pc H p0 i))), .int (nI 1)]) (st1 := [.int (nI (tw_ct w pc H (H - i) (tw_fp w pc H p0 i))), .int (nI 1), .int (nI (tw_fp w pc H p0 i)), .int (nI i), .int (nI c), .ref 88]) (σ1 := τ2) rfl ?_
        refine tw_cl1 rfl (rfl) (by decide) (tw_E_mono (tw_e_may (w := w) (pc := pc) (h := i) (q := 1) hc hH ((hG2 88 32 (by omega)).trans h32) (fun h hh => (hG2 91 _ (by omega)).trans (hw h hh)) (fun l hl => (hG2 113 _ (by omega)).trans (hpc l hl)) (by omega) hfl (by decide) (by omega)) (fun v σ1 z => (⟨z.1.trans (by rw [tw_blF hb1]), z.2⟩ : v = some (.int (nI 0)) ∧ ∀ k j, ¬ k = 114 → σ1 k j = τ2 k j))) ?_
        rintro _ τ3 ⟨rfl, hf3⟩
        show tw_P L xs _ 231 41 [.ref 88, .int (nI h), .int (nI c), .int (nI (tw_fp w pc H p0 i)), .int (nI 2), .int (nI i), .int (nI (tw_ct w pc H (H - i) (tw_fp w pc H p0 i))), .int (nI 1)] [.int (nI 0)] τ3 _
        have hG3 : ∀ k j, ¬ k = 114 → τ3 k j = σ0 k j := fun k j g => (hf3 k j g).trans (hG2 k j g)
        refine tw_bzT (c := .eq) rfl (by rw [tw_ceq, tw_neq (by omega) (by omega)] <;> omega) ?_
        show tw_P L xs _ 231 44 [.ref 88, .int (nI h), .int (nI c), .int (nI (tw_fp w pc H p0 i)), .int (nI 2), .int (nI i), .int (nI (tw_ct w pc H (H - i) (tw_fp w pc H p0 i))), .int (nI 1)] [] τ3 _
        refine tw_sgn 4 (i1 := 33) (ls0 := [.ref 88, .int (nI h), .int (nI c), .int (nI (tw_fp w pc H p0 i)), .int (nI 2), .int (nI i), .int (nI (tw_ct w pc H (H - i) (tw_fp w pc H p0 i))), .int (nI 1 + (-1))]) (st0 := [.int (nI 1), .int (nI 1 + (-1))]) (σ0 := τ3) (ls1 := [.ref 88, .int (nI h), .int (nI c), .int (nI (tw_fp w pc H p0 i)), .int (nI 2), .int (nI i), .int (nI (tw_ct w pc H (H - i) (tw_fp w pc H p0 i))), .int (nI 0)]) (st1 := [.int (nI 1), .int (nI 0)]) (σ1 := τ3) rfl (by simp only [tw_kd10, tw_nadd, tw_nmul]) (by simp only [tw_kd10, tw_nadd, tw_nmul]) (rfl) ?_
        refine tw_biT (c := .lt) rfl (by rw [tw_clt, tw_nlt (by omega) (by omega)] <;> omega) ?_
        show tw_P L xs _ 231 46 [.ref 88, .int (nI h), .int (nI c), .int (nI (tw_fp w pc H p0 i)), .int (nI 2), .int (nI i), .int (nI (tw_ct w pc H (H - i) (tw_fp w pc H p0 i))), .int (nI 0)] [] τ3 _
        refine tw_sg 2 (i1 := 48) (ls1 := [.ref 88, .int (nI h), .int (nI c), .int (nI (tw_fp w pc H p0 i)), .int (nI 2), .int (nI i), .int (nI (tw_ct w pc H (H - i) (tw_fp w pc H p0 i))), .int (nI 0)]) (st1 := [.int (nI 2), .int (nI (tw_fp w pc H p0 i))]) (σ1 := τ3) rfl ?_
        refine tw_cl1 rfl (rfl) (by decide) (tw_e_moved (t := 2) (by decide)) ?_
        rintro _ _ ⟨rfl, rfl⟩
        show tw_P L xs _ 231 49 [.ref 88, .int (nI h), .int (nI c), .int (nI (tw_fp w pc H p0 i)), .int (nI 2), .int (nI i), .int (nI (tw_ct w pc H (H - i) (tw_fp w pc H p0 i))), .int (nI 0)] [.int (nI (tw_mI 2)), .int (nI (tw_fp w pc H p0 i))] τ3 _
        refine tw_sgn 2 (i1 := 51) (ls0 := [.ref 88, .int (nI h), .int (nI c), .int (nI (tw_fp w pc H p0 i)), .int (nI 2), .int (nI i), .int (nI (tw_ct w pc H (H - i) (tw_fp w pc H p0 i))), .int (nI 0)]) (st0 := [.int (nI 4), .int (nI (tw_fp w pc H p0 i) + nI (tw_mI 2))]) (σ0 := τ3) (ls1 := [.ref 88, .int (nI h), .int (nI c), .int (nI (tw_fp w pc H p0 i)), .int (nI 2), .int (nI i), .int (nI (tw_ct w pc H (H - i) (tw_fp w pc H p0 i))), .int (nI 0)]) (st1 := [.int (nI 4), .int (nI ((tw_fp w pc H p0 i) + (tw_mI 2)))]) (σ1 := τ3) rfl (rfl) (by simp only [tw_nadd, tw_nmul]) (rfl) ?_
        refine tw_rm rfl (by decide) ?_
        rw [tw_nrem (by have := @tw_mI_le 2; omega) (by decide)]
        refine tw_sgn 3 (i1 := 18) (ls0 := [.ref 88, .int (nI h), .int (nI c), .int (nI (tw_pl (tw_fp w pc H p0 i) 2)), .int (nI 2), .int (nI i + nI 1), .int (nI (tw_ct w pc H (H - i) (tw_fp w pc H p0 i))), .int (nI 0)]) (st0 := []) (σ0 := τ3) (ls1 := [.ref 88, .int (nI h), .int (nI c), .int (nI (tw_pl (tw_fp w pc H p0 i) 2)), .int (nI 2), .int (nI (i + 1)), .int (nI (tw_ct w pc H (H - i) (tw_fp w pc H p0 i))), .int (nI 0)]) (st1 := []) (σ1 := τ3) rfl (by simp only [tw_nadd, tw_nmul]) (rfl) (rfl) ?_
        have eT : tw_ft w pc H p0 i = 2 := tw_bt2 hlc (fun g => hb1 ⟨g.1, g.2.trans hE.symm⟩) ⟨hb2.1, hb2.2.trans hE⟩
        have eP : tw_fp w pc H p0 (i + 1) = tw_pl (tw_fp w pc H p0 i) 2 := congrArg (tw_pl (tw_fp w pc H p0 i)) eT
        have hR := ih (i + 1) τ3 (nI 2) (.int (nI (tw_ct w pc H (H - i) (tw_fp w pc H p0 i)))) (.int (nI 0)) (by omega) hG3 (fun j hj => by rw [show j = i by omega, eT]) (fun _ => hN)
        rw [eP] at hR
        exact hR
      · skip
        refine tw_sg 2 (i1 := 20) (ls1 := [.ref 88, .int (nI h), .int (nI c), .int (nI (tw_fp w pc H p0 i)), .int v4, .int (nI i), u6, u7]) (st1 := [.int (nI h), .int (nI i)]) (σ1 := σ) rfl ?_
        refine tw_biF (c := .gt) rfl (by rw [tw_cgt', tw_nlt (by omega) (by omega)] <;> omega) ?_
        show tw_P L xs _ 231 21 [.ref 88, .int (nI h), .int (nI c), .int (nI (tw_fp w pc H p0 i)), .int v4, .int (nI i), u6, u7] [] σ _
        refine tw_sg 4 (i1 := 25) (ls1 := [.ref 88, .int (nI h), .int (nI c), .int (nI (tw_fp w pc H p0 i)), .int v4, .int (nI i), u6, u7]) (st1 := [.int (nI (tw_fp w pc H p0 i)), .int (nI i), .int (nI c), .ref 88]) (σ1 := σ) rfl ?_
        refine tw_cl1 rfl (rfl) (by decide) (tw_e_ff (w := w) (pc := pc) (h := i) hc hH ((hF 88 32 (by omega)).trans h32) (fun h hh => (hF 91 _ (by omega)).trans (hw h hh)) (fun l hl => (hF 113 _ (by omega)).trans (hpc l hl)) (by omega) hfl) ?_
        rintro _ τ1 ⟨rfl, hf1⟩
        show tw_P L xs _ 231 26 [.ref 88, .int (nI h), .int (nI c), .int (nI (tw_fp w pc H p0 i)), .int v4, .int (nI i), u6, u7] [.int (nI (tw_ct w pc H (H - i) (tw_fp w pc H p0 i)))] τ1 _
        have hG1 : ∀ k j, ¬ k = 114 → τ1 k j = σ0 k j := fun k j g => (hf1 k j g).trans (hF k j g)
        refine tw_sg 7 (i1 := 33) (ls1 := [.ref 88, .int (nI h), .int (nI c), .int (nI (tw_fp w pc H p0 i)), .int (nI 0), .int (nI i), .int (nI (tw_ct w pc H (H - i) (tw_fp w pc H p0 i))), .int (nI 2)]) (st1 := [.int (nI 1), .int (nI 2)]) (σ1 := τ1) rfl ?_
        refine tw_biF (c := .lt) rfl (by rw [tw_clt', tw_nlt (by omega) (by omega)] <;> omega) ?_
        show tw_P L xs _ 231 34 [.ref 88, .int (nI h), .int (nI c), .int (nI (tw_fp w pc H p0 i)), .int (nI 0), .int (nI i), .int (nI (tw_ct w pc H (H - i) (tw_fp w pc H p0 i))), .int (nI 2)] [] τ1 _
        refine tw_sg 6 (i1 := 40) (ls1 := [.ref 88, .int (nI h), .int (nI c), .int (nI (tw_fp w pc H p0 i)), .int (nI 0), .int (nI i), .int (nI (tw_ct w pc H (H - i) (tw_fp w pc H p0 i))), .int (nI 2)]) (st1 := [.int (nI (tw_ct w pc H (H - i) (tw_fp w pc H p0 i))), .int (nI 2), .int (nI (tw_fp w pc H p0 i)), .int (nI i), .int (nI c), .ref 88]) (σ1 := τ1) rfl ?_
        refine tw_cl1 rfl (rfl) (by decide) (tw_E_mono (tw_e_may (w := w) (pc := pc) (h := i) (q := 2) hc hH ((hG1 88 32 (by omega)).trans h32) (fun h hh => (hG1 91 _ (by omega)).trans (hw h hh)) (fun l hl => (hG1 113 _ (by omega)).trans (hpc l hl)) (by omega) hfl (by decide) (by omega)) (fun v σ1 z => (⟨z.1.trans (by rw [tw_blF hb2]), z.2⟩ : v = some (.int (nI 0)) ∧ ∀ k j, ¬ k = 114 → σ1 k j = τ1 k j))) ?_
        rintro _ τ2 ⟨rfl, hf2⟩
        show tw_P L xs _ 231 41 [.ref 88, .int (nI h), .int (nI c), .int (nI (tw_fp w pc H p0 i)), .int (nI 0), .int (nI i), .int (nI (tw_ct w pc H (H - i) (tw_fp w pc H p0 i))), .int (nI 2)] [.int (nI 0)] τ2 _
        have hG2 : ∀ k j, ¬ k = 114 → τ2 k j = σ0 k j := fun k j g => (hf2 k j g).trans (hG1 k j g)
        refine tw_bzT (c := .eq) rfl (by rw [tw_ceq, tw_neq (by omega) (by omega)] <;> omega) ?_
        show tw_P L xs _ 231 44 [.ref 88, .int (nI h), .int (nI c), .int (nI (tw_fp w pc H p0 i)), .int (nI 0), .int (nI i), .int (nI (tw_ct w pc H (H - i) (tw_fp w pc H p0 i))), .int (nI 2)] [] τ2 _
        refine tw_sgn 4 (i1 := 33) (ls0 := [.ref 88, .int (nI h), .int (nI c), .int (nI (tw_fp w pc H p0 i)), .int (nI 0), .int (nI i), .int (nI (tw_ct w pc H (H - i) (tw_fp w pc H p0 i))), .int (nI 2 + (-1))]) (st0 := [.int (nI 1), .int (nI 2 + (-1))]) (σ0 := τ2) (ls1 := [.ref 88, .int (nI h), .int (nI c), .int (nI (tw_fp w pc H p0 i)), .int (nI 0), .int (nI i), .int (nI (tw_ct w pc H (H - i) (tw_fp w pc H p0 i))), .int (nI 1)]) (st1 := [.int (nI 1), .int (nI 1)]) (σ1 := τ2) rfl (by simp only [tw_kd21, tw_nadd, tw_nmul]) (by simp only [tw_kd21, tw_nadd, tw_nmul]) (rfl) ?_
        refine tw_biF (c := .lt) rfl (by rw [tw_clt', tw_nlt (by omega) (by omega)] <;> omega) ?_
        show tw_P L xs _ 231 34 [.ref 88, .int (nI h), .int (nI c), .int (nI (tw_fp w pc H p0 i)), .int (nI 0), .int (nI i), .int (nI (tw_ct w pc H (H - i) (tw_fp w pc H p0 i))), .int (nI 1)] [] τ2 _
        refine tw_sg 6 (i1 := 40) (ls1 := [.ref 88, .int (nI h), .int (nI c), .int (nI (tw_fp w pc H p0 i)), .int (nI 0), .int (nI i), .int (nI (tw_ct w pc H (H - i) (tw_fp w pc H p0 i))), .int (nI 1)]) (st1 := [.int (nI (tw_ct w pc H (H - i) (tw_fp w pc H p0 i))), .int (nI 1), .int (nI (tw_fp w pc H p0 i)), .int (nI i), .int (nI c), .ref 88]) (σ1 := τ2) rfl ?_
        refine tw_cl1 rfl (rfl) (by decide) (tw_E_mono (tw_e_may (w := w) (pc := pc) (h := i) (q := 1) hc hH ((hG2 88 32 (by omega)).trans h32) (fun h hh => (hG2 91 _ (by omega)).trans (hw h hh)) (fun l hl => (hG2 113 _ (by omega)).trans (hpc l hl)) (by omega) hfl (by decide) (by omega)) (fun v σ1 z => (⟨z.1.trans (by rw [tw_blF hb1]), z.2⟩ : v = some (.int (nI 0)) ∧ ∀ k j, ¬ k = 114 → σ1 k j = τ2 k j))) ?_
        rintro _ τ3 ⟨rfl, hf3⟩
        show tw_P L xs _ 231 41 [.ref 88, .int (nI h), .int (nI c), .int (nI (tw_fp w pc H p0 i)), .int (nI 0), .int (nI i), .int (nI (tw_ct w pc H (H - i) (tw_fp w pc H p0 i))), .int (nI 1)] [.int (nI 0)] τ3 _
        have hG3 : ∀ k j, ¬ k = 114 → τ3 k j = σ0 k j := fun k j g => (hf3 k j g).trans (hG2 k j g)
        refine tw_bzT (c := .eq) rfl (by rw [tw_ceq, tw_neq (by omega) (by omega)] <;> omega) ?_
        show tw_P L xs _ 231 44 [.ref 88, .int (nI h), .int (nI c), .int (nI (tw_fp w pc H p0 i)), .int (nI 0), .int (nI i), .int (nI (tw_ct w pc H (H - i) (tw_fp w pc H p0 i))), .int (nI 1)] [] τ3 _
        refine tw_sgn 4 (i1 := 33) (ls0 := [.ref 88, .int (nI h), .int (nI c), .int (nI (tw_fp w pc H p0 i)), .int (nI 0), .int (nI i), .int (nI (tw_ct w pc H (H - i) (tw_fp w pc H p0 i))), .int (nI 1 + (-1))]) (st0 := [.int (nI 1), .int (nI 1 + (-1))]) (σ0 := τ3) (ls1 := [.ref 88, .int (nI h), .int (nI c), .int (nI (tw_fp w pc H p0 i)), .int (nI 0), .int (nI i), .int (nI (tw_ct w pc H (H - i) (tw_fp w pc H p0 i))), .int (nI 0)]) (st1 := [.int (nI 1), .int (nI 0)]) (σ1 := τ3) rfl (by simp only [tw_kd10, tw_nadd, tw_nmul]) (by simp only [tw_kd10, tw_nadd, tw_nmul]) (rfl) ?_
        refine tw_biT (c := .lt) rfl (by rw [tw_clt, tw_nlt (by omega) (by omega)] <;> omega) ?_
        show tw_P L xs _ 231 46 [.ref 88, .int (nI h), .int (nI c), .int (nI (tw_fp w pc H p0 i)), .int (nI 0), .int (nI i), .int (nI (tw_ct w pc H (H - i) (tw_fp w pc H p0 i))), .int (nI 0)] [] τ3 _
        refine tw_sg 2 (i1 := 48) (ls1 := [.ref 88, .int (nI h), .int (nI c), .int (nI (tw_fp w pc H p0 i)), .int (nI 0), .int (nI i), .int (nI (tw_ct w pc H (H - i) (tw_fp w pc H p0 i))), .int (nI 0)]) (st1 := [.int (nI 0), .int (nI (tw_fp w pc H p0 i))]) (σ1 := τ3) rfl ?_
        refine tw_cl1 rfl (rfl) (by decide) (tw_e_moved (t := 0) (by decide)) ?_
        rintro _ _ ⟨rfl, rfl⟩
        show tw_P L xs _ 231 49 [.ref 88, .int (nI h), .int (nI c), .int (nI (tw_fp w pc H p0 i)), .int (nI 0), .int (nI i), .int (nI (tw_ct w pc H (H - i) (tw_fp w pc H p0 i))), .int (nI 0)] [.int (nI (tw_mI 0)), .int (nI (tw_fp w pc H p0 i))] τ3 _
        refine tw_sgn 2 (i1 := 51) (ls0 := [.ref 88, .int (nI h), .int (nI c), .int (nI (tw_fp w pc H p0 i)), .int (nI 0), .int (nI i), .int (nI (tw_ct w pc H (H - i) (tw_fp w pc H p0 i))), .int (nI 0)]) (st0 := [.int (nI 4), .int (nI (tw_fp w pc H p0 i) + nI (tw_mI 0))]) (σ0 := τ3) (ls1 := [.ref 88, .int (nI h), .int (nI c), .int (nI (tw_fp w pc H p0 i)), .int (nI 0), .int (nI i), .int (nI (tw_ct w pc H (H - i) (tw_fp w pc H p0 i))), .int (nI 0)]) (st1 := [.int (nI 4), .int (nI ((tw_fp w pc H p0 i) + (tw_mI 0)))]) (σ1 := τ3) rfl (rfl) (by simp only [tw_nadd, tw_nmul]) (rfl) ?_
        refine tw_rm rfl (by decide) ?_
        rw [tw_nrem (by have := @tw_mI_le 0; omega) (by decide)]
        refine tw_sgn 3 (i1 := 18) (ls0 := [.ref 88, .int (nI h), .int (nI c), .int (nI (tw_pl (tw_fp w pc H p0 i) 0)), .int (nI 0), .int (nI i + nI 1), .int (nI (tw_ct w pc H (H - i) (tw_fp w pc H p0 i))), .int (nI 0)]) (st0 := []) (σ0 := τ3) (ls1 := [.ref 88, .int (nI h), .int (nI c), .int (nI (tw_pl (tw_fp w pc H p0 i) 0)), .int (nI 0), .int (nI (i + 1)), .int (nI (tw_ct w pc H (H - i) (tw_fp w pc H p0 i))), .int (nI 0)]) (st1 := []) (σ1 := τ3) rfl (by simp only [tw_nadd, tw_nmul]) (rfl) (rfl) ?_
        have eT : tw_ft w pc H p0 i = 0 := tw_bt0 hlc (fun g => hb1 ⟨g.1, g.2.trans hE.symm⟩) (fun g => hb2 ⟨g.1, g.2.trans hE.symm⟩)
        have eP : tw_fp w pc H p0 (i + 1) = tw_pl (tw_fp w pc H p0 i) 0 := congrArg (tw_pl (tw_fp w pc H p0 i)) eT
        have hR := ih (i + 1) τ3 (nI 0) (.int (nI (tw_ct w pc H (H - i) (tw_fp w pc H p0 i)))) (.int (nI 0)) (by omega) hG3 (fun j hj => by rw [show j = i by omega, eT]) (fun _ => hN)
        rw [eP] at hR
        exact hR
set_option maxHeartbeats 4000000 in
set_option maxRecDepth 100000 in
theorem tw_e_draftM1 {w pc : Nat → Int32} {H : Nat} (hc : c < 10) (hH : H ≤ 8) (h32 : σ 88 32 = nI H) (hw : ∀ h, h < 4 → σ 91 (4 * c + h) = w h) (hpc : ∀ l, l < H → σ 113 (10 * l + c) = pc l) {p0 : Nat} (hh : h < H) (hp0 : p0 < 4) (hp2 : σ 93 c = nI p0) (hlo : ¬ tw_ct w pc H H p0 = 1000) : tw_E L xs 3 231 [.ref 88, .int (nI h), .int (nI c)] σ (fun v τ => v = some (.int (nI (tw_ft w pc H p0 h))) ∧ ∀ k j, ¬ k = 114 → τ k j = σ k j) := by
  have hle := @tw_ct_le w pc H H p0
  show tw_P L xs _ 231 0 [.ref 88, .int (nI h), .int (nI c), tw_U, tw_U, tw_U, tw_U, tw_U] [] σ _
  refine tw_sg 3 (i1 := 3) (ls1 := [.ref 88, .int (nI h), .int (nI c), tw_U, tw_U, tw_U, tw_U, tw_U]) (st1 := [.int (nI c), .ref 93]) (σ1 := σ) rfl ?_
  refine tw_al (k := 93) (j := c) (len := 20) rfl rfl rfl rfl (rfl) (by omega) (by decide) ?_
  rw [hp2]
  refine tw_sg 7 (i1 := 11) (ls1 := [.ref 88, .int (nI h), .int (nI c), .int (nI p0), .int (nI 0), tw_U, tw_U, tw_U]) (st1 := [.int (nI p0), .int (nI 0), .int (nI c), .ref 88]) (σ1 := σ) rfl ?_
  refine tw_cl1 rfl (rfl) (by decide) (tw_e_ff (w := w) (pc := pc) (h := 0) hc hH h32 hw hpc (Nat.zero_le _) hp0) ?_
  rintro _ τ ⟨rfl, hf⟩
  show tw_P L xs _ 231 12 [.ref 88, .int (nI h), .int (nI c), .int (nI p0), .int (nI 0), tw_U, tw_U, tw_U] [.int (nI (tw_ct w pc H H p0))] τ _
  refine tw_sg 1 (i1 := 13) (ls1 := [.ref 88, .int (nI h), .int (nI c), .int (nI p0), .int (nI 0), tw_U, tw_U, tw_U]) (st1 := [.int (nI 1000), .int (nI (tw_ct w pc H H p0))]) (σ1 := τ) rfl ?_
  refine tw_biT (c := .ne) rfl (by rw [tw_cne] <;> (exact (by rw [tw_neq (by omega) (by omega)]; omega))) ?_
  show tw_P L xs _ 231 16 [.ref 88, .int (nI h), .int (nI c), .int (nI p0), .int (nI 0), tw_U, tw_U, tw_U] [] τ _
  refine tw_sg 2 (i1 := 18) (ls1 := [.ref 88, .int (nI h), .int (nI c), .int (nI p0), .int (nI 0), .int (nI 0), tw_U, tw_U]) (st1 := []) (σ1 := τ) rfl ?_
  refine tw_l_draft (w := w) (pc := pc) (p0 := p0) hc hH h32 hw hpc hh hp0 (fun τ hF => ⟨rfl, hF⟩) (h + 1) 0 τ _ _ _ (by omega) hf (fun j hj => by omega) (fun _ => ?_)
  show tw_ct w pc H H p0 < 1000
  omega
set_option maxHeartbeats 4000000 in
set_option maxRecDepth 100000 in
theorem tw_e_draftM0 {w pc : Nat → Int32} {H : Nat} (hc : c < 10) (hH : H ≤ 8) (h32 : σ 88 32 = nI H) (hw : ∀ h, h < 4 → σ 91 (4 * c + h) = w h) (hpc : ∀ l, l < H → σ 113 (10 * l + c) = pc l) {p0 : Nat} (hh : h < H) (hp0 : p0 < 4) (hp2 : σ 93 c = nI p0) (hlo : tw_ct w pc H H p0 = 1000) : tw_E L xs 3 231 [.ref 88, .int (nI h), .int (nI c)] σ (fun v τ => v = some (.int (-5)) ∧ ∀ k j, ¬ k = 114 → τ k j = σ k j) := by
  have hle := @tw_ct_le w pc H H p0
  show tw_P L xs _ 231 0 [.ref 88, .int (nI h), .int (nI c), tw_U, tw_U, tw_U, tw_U, tw_U] [] σ _
  refine tw_sg 3 (i1 := 3) (ls1 := [.ref 88, .int (nI h), .int (nI c), tw_U, tw_U, tw_U, tw_U, tw_U]) (st1 := [.int (nI c), .ref 93]) (σ1 := σ) rfl ?_
  refine tw_al (k := 93) (j := c) (len := 20) rfl rfl rfl rfl (rfl) (by omega) (by decide) ?_
  rw [hp2]
  refine tw_sg 7 (i1 := 11) (ls1 := [.ref 88, .int (nI h), .int (nI c), .int (nI p0), .int (nI 0), tw_U, tw_U, tw_U]) (st1 := [.int (nI p0), .int (nI 0), .int (nI c), .ref 88]) (σ1 := σ) rfl ?_
  refine tw_cl1 rfl (rfl) (by decide) (tw_e_ff (w := w) (pc := pc) (h := 0) hc hH h32 hw hpc (Nat.zero_le _) hp0) ?_
  rintro _ τ ⟨rfl, hf⟩
  show tw_P L xs _ 231 12 [.ref 88, .int (nI h), .int (nI c), .int (nI p0), .int (nI 0), tw_U, tw_U, tw_U] [.int (nI (tw_ct w pc H H p0))] τ _
  refine tw_sg 1 (i1 := 13) (ls1 := [.ref 88, .int (nI h), .int (nI c), .int (nI p0), .int (nI 0), tw_U, tw_U, tw_U]) (st1 := [.int (nI 1000), .int (nI (tw_ct w pc H H p0))]) (σ1 := τ) rfl ?_
  refine tw_biF (c := .ne) rfl (by rw [tw_cne'] <;> (exact (by rw [tw_neq (by omega) (by omega)]; omega))) ?_
  show tw_P L xs _ 231 14 [.ref 88, .int (nI h), .int (nI c), .int (nI p0), .int (nI 0), tw_U, tw_U, tw_U] [] τ _
  refine tw_sg 1 (i1 := 15) (ls1 := [.ref 88, .int (nI h), .int (nI c), .int (nI p0), .int (nI 0), tw_U, tw_U, tw_U]) (st1 := [.int (-5)]) (σ1 := τ) rfl ?_
  refine tw_ri rfl (rfl) ?_
  exact ⟨rfl, hf⟩
end tw_s71
