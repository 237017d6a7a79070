/-! drafts, the class -/
section tw_s70
variable {L : Nat} {xs : Nat → Int32} {σ : tw_Mem} {x y w : Int32} {n r i c k h q a b e : Nat}
/-- what a way costs: w the card's holes, x the picture's colour, C what is to come -/
def tw_cb (w : Nat → Int32) (x : Int32) (C : Nat → Nat) (p t : Nat) : Nat := if w (tw_pl p t) = x then min 1000 (C (tw_pl p t) + (if t = 0 then 0 else 1)) else 1000
def tw_lc (w : Nat → Int32) (x : Int32) (C : Nat → Nat) (p : Nat) : Nat := min (min (min 1000 (tw_cb w x C p 1)) (tw_cb w x C p 2)) (tw_cb w x C p 0)
def tw_bt (w : Nat → Int32) (x : Int32) (C : Nat → Nat) (p : Nat) : Nat := if tw_cb w x C p 1 = tw_lc w x C p then 1 else if tw_cb w x C p 2 = tw_lc w x C p then 2 else 0
/-- the least cost with so many lines left -/
def tw_ct (w pc : Nat → Int32) (H : Nat) : Nat → Nat → Nat
  | 0, _ => 0
  | j + 1, p => tw_lc w (pc (H - 1 - j)) (fun q => tw_ct w pc H j q) p
/-- the place, the turning at a line -/
def tw_fp (w pc : Nat → Int32) (H p0 : Nat) : Nat → Nat
  | 0 => p0
  | l + 1 => tw_pl (tw_fp w pc H p0 l) (tw_bt w (pc l) (fun q => tw_ct w pc H (H - (l + 1)) q) (tw_fp w pc H p0 l))
def tw_ft (w pc : Nat → Int32) (H p0 l : Nat) : Nat := tw_bt w (pc l) (fun q => tw_ct w pc H (H - (l + 1)) q) (tw_fp w pc H p0 l)
theorem tw_cb_le {w : Nat → Int32} {x : Int32} {C : Nat → Nat} {p t : Nat} : tw_cb w x C p t ≤ 1000 := by unfold tw_cb; split <;> omega
theorem tw_lc_le {w : Nat → Int32} {x : Int32} {C : Nat → Nat} {p : Nat} : tw_lc w x C p ≤ 1000 := by unfold tw_lc; omega
theorem tw_bt_le {w : Nat → Int32} {x : Int32} {C : Nat → Nat} {p : Nat} : tw_bt w x C p ≤ 2 := by unfold tw_bt; split <;> (try split) <;> omega
theorem tw_ct_le {w pc : Nat → Int32} {H : Nat} : ∀ j p, tw_ct w pc H j p ≤ 1000
  | 0, _ => by rw [tw_ct]; omega
  | j + 1, p => by rw [tw_ct]; exact tw_lc_le
theorem tw_ct_ln {w pc : Nat → Int32} {H l p : Nat} (hl : l < H) : tw_ct w pc H (H - l) p = tw_lc w (pc l) (fun q => tw_ct w pc H (H - (l + 1)) q) p := by
  obtain ⟨j, hj⟩ : ∃ j, H - l = j + 1 := ⟨H - l - 1, by omega⟩
  rw [hj, tw_ct, show H - 1 - j = l by omega, show H - (l + 1) = j by omega]
theorem tw_pl4 {p t : Nat} : tw_pl p t < 4 := Nat.mod_lt _ (by decide)
theorem tw_fp_lt {w pc : Nat → Int32} {H p0 : Nat} (h : p0 < 4) : ∀ l, tw_fp w pc H p0 l < 4
  | 0 => h
  | l + 1 => tw_pl4
theorem tw_ft_le {w pc : Nat → Int32} {H p0 l : Nat} : tw_ft w pc H p0 l ≤ 2 := tw_bt_le
theorem tw_sb1 {a : Nat} : nI a - nI 1 = nI a + (-1) := Int32.sub_eq_add_neg _ _
theorem tw_m1s {a : Nat} : nI (a + 1) + (-1) = nI a := by rw [← tw_sb1, tw_nsub (by omega), Nat.add_sub_cancel]
set_option maxHeartbeats 4000000 in
set_option maxRecDepth 100000 in
theorem tw_e_cost (hh : h ≤ 8) (ha : a < 4) (hv : σ 82 (h * 4 + a) = x) : tw_E L xs 0 44 [.ref 81, .int (nI h), .int (nI a)] σ (fun v σ1 => v = some (.int x) ∧ σ = σ1) := by
  show tw_P L xs _ 44 0 [.ref 81, .int (nI h), .int (nI a), tw_U] [] σ _
  refine tw_sgn 7 (i1 := 7) (ls0 := [.ref 81, .int (nI h), .int (nI a), .int ((nI h * nI 4) + nI a)]) (st0 := [.int ((nI h * nI 4) + nI a)]) (σ0 := σ) (ls1 := [.ref 81, .int (nI h), .int (nI a), .int (nI ((h * 4) + a))]) (st1 := [.int (nI ((h * 4) + a))]) (σ1 := σ) rfl (by simp only [tw_nadd, tw_nmul]) (by simp only [tw_nadd, tw_nmul]) (rfl) ?_
  refine tw_bzF (c := .lt) rfl (by rw [tw_clt', tw_nlt (by omega) (by omega)] <;> omega) ?_
  show tw_P L xs _ 44 8 [.ref 81, .int (nI h), .int (nI a), .int (nI ((h * 4) + a))] [] σ _
  refine tw_sg 4 (i1 := 12) (ls1 := [.ref 81, .int (nI h), .int (nI a), .int (nI ((h * 4) + a))]) (st1 := [.int (nI 36), .int (nI ((h * 4) + a))]) (σ1 := σ) rfl ?_
  refine tw_biF (c := .ge) rfl (by rw [tw_cge', tw_nle (by omega) (by omega)] <;> omega) ?_
  show tw_P L xs _ 44 13 [.ref 81, .int (nI h), .int (nI a), .int (nI ((h * 4) + a))] [] σ _
  refine tw_sg 3 (i1 := 16) (ls1 := [.ref 81, .int (nI h), .int (nI a), .int (nI ((h * 4) + a))]) (st1 := [.int (nI ((h * 4) + a)), .ref 82]) (σ1 := σ) rfl ?_
  refine tw_al (k := 82) (j := ((h * 4) + a)) (len := 36) rfl rfl rfl rfl (rfl) (by omega) (by decide) ?_
  rw [hv]
  refine tw_sg 1 (i1 := 19) (ls1 := [.ref 81, .int (nI h), .int (nI a), .int (nI ((h * 4) + a))]) (st1 := [.int x]) (σ1 := σ) rfl ?_
  refine tw_ri rfl (rfl) ?_
  exact ⟨rfl, rfl⟩
set_option maxHeartbeats 4000000 in
set_option maxRecDepth 100000 in
theorem tw_e_setCost (hh : h ≤ 8) (ha : a < 4) : tw_E L xs 0 45 [.ref 81, .int (nI h), .int (nI a), .int x] σ (fun v τ => v = none ∧ tw_upd σ 82 (h * 4 + a) x = τ) := by
  show tw_P L xs _ 45 0 [.ref 81, .int (nI h), .int (nI a), .int x, tw_U] [] σ _
  refine tw_sgn 7 (i1 := 7) (ls0 := [.ref 81, .int (nI h), .int (nI a), .int x, .int ((nI h * nI 4) + nI a)]) (st0 := [.int ((nI h * nI 4) + nI a)]) (σ0 := σ) (ls1 := [.ref 81, .int (nI h), .int (nI a), .int x, .int (nI ((h * 4) + a))]) (st1 := [.int (nI ((h * 4) + a))]) (σ1 := σ) rfl (by simp only [tw_nadd, tw_nmul]) (by simp only [tw_nadd, tw_nmul]) (rfl) ?_
  refine tw_bzF (c := .lt) rfl (by rw [tw_clt', tw_nlt (by omega) (by omega)] <;> omega) ?_
  show tw_P L xs _ 45 8 [.ref 81, .int (nI h), .int (nI a), .int x, .int (nI ((h * 4) + a))] [] σ _
  refine tw_sg 4 (i1 := 12) (ls1 := [.ref 81, .int (nI h), .int (nI a), .int x, .int (nI ((h * 4) + a))]) (st1 := [.int (nI 36), .int (nI ((h * 4) + a))]) (σ1 := σ) rfl ?_
  refine tw_biF (c := .ge) rfl (by rw [tw_cge', tw_nle (by omega) (by omega)] <;> omega) ?_
  show tw_P L xs _ 45 13 [.ref 81, .int (nI h), .int (nI a), .int x, .int (nI ((h * 4) + a))] [] σ _
  refine tw_sg 4 (i1 := 17) (ls1 := [.ref 81, .int (nI h), .int (nI a), .int x, .int (nI ((h * 4) + a))]) (st1 := [.int x, .int (nI ((h * 4) + a)), .ref 82]) (σ1 := σ) rfl ?_
  refine tw_as (k := 82) (j := ((h * 4) + a)) (len := 36) rfl rfl rfl (rfl) (by omega) (by decide) ?_
  refine tw_rv rfl ?_
  exact ⟨rfl, rfl⟩
set_option maxHeartbeats 4000000 in
set_option maxRecDepth 100000 in
theorem tw_e_costBy {w : Nat → Int32} {C : Nat → Nat} {l p t : Nat} (hc : c < 10) (hl : l < 8) (hp : p < 4) (ht : t < 3) (hw : ∀ h, h < 4 → σ (2 * c + 19) h = w h) (hC : ∀ q, q < 4 → σ 82 ((l + 1) * 4 + q) = nI (C q)) (hC2 : ∀ q, q < 4 → C q ≤ 1000) : tw_E L xs 2 42 [.ref 81, .int (nI t), .ref (2 * c + 18), .int (nI l), .int (nI p), .int x] σ (fun v σ1 => v = some (.int (nI (tw_cb w x C p t))) ∧ σ = σ1) := by
  have hpl := @tw_pl4 p t
  have hb := hC2 _ hpl
  rcases (show t = 0 ∨ 0 < t by omega) with hz | hz
  · subst hz
    show tw_P L xs _ 42 0 [.ref 81, .int (nI 0), .ref (2 * c + 18), .int (nI l), .int (nI p), .int x, tw_U] [] σ _
    refine tw_sg 2 (i1 := 2) (ls1 := [.ref 81, .int (nI 0), .ref (2 * c + 18), .int (nI l), .int (nI p), .int x, tw_U]) (st1 := [.int (nI 0), .int (nI p)]) (σ1 := σ) rfl ?_
    refine tw_cl1 rfl (rfl) (by decide) (tw_e_twistOf (t := 0) (by omega)) ?_
    rintro _ _ ⟨rfl, rfl⟩
    show tw_P L xs _ 42 3 [.ref 81, .int (nI 0), .ref (2 * c + 18), .int (nI l), .int (nI p), .int x, tw_U] [.int (tw_gI 0), .int (nI p)] σ _
    refine tw_cl1 rfl (rfl) (by decide) (tw_E_mono tw_e_behind (fun v σ1 h => (⟨h.1.trans (by rw [tw_fm_pl _ hp _ (by omega)]), h.2⟩ : v = some (.int (nI (tw_pl p 0))) ∧ σ = σ1))) ?_
    rintro _ _ ⟨rfl, rfl⟩
    show tw_P L xs _ 42 4 [.ref 81, .int (nI 0), .ref (2 * c + 18), .int (nI l), .int (nI p), .int x, tw_U] [.int (nI (tw_pl p 0))] σ _
    refine tw_sg 3 (i1 := 7) (ls1 := [.ref 81, .int (nI 0), .ref (2 * c + 18), .int (nI l), .int (nI p), .int x, .int (nI (tw_pl p 0))]) (st1 := [.int (nI (tw_pl p 0)), .ref (2 * c + 18)]) (σ1 := σ) rfl ?_
    refine tw_cl1 rfl (tw_inv_ok (y := 1) (b := 1) (st := [.int (nI (tw_pl p 0)), .ref (2 * c + 18)]) (k := (2 * c + 18)) (r := []) rfl rfl (tw_cdO hc)) (by decide) (tw_E_mono (tw_e_colourIn1 hc hpl) (fun v σ1 h => (⟨h.1.trans (by rw [hw _ hpl]), h.2⟩ : v = some (.int (w (tw_pl p 0))) ∧ σ = σ1))) ?_
    rintro _ _ ⟨rfl, rfl⟩
    show tw_P L xs _ 42 8 [.ref 81, .int (nI 0), .ref (2 * c + 18), .int (nI l), .int (nI p), .int x, .int (nI (tw_pl p 0))] [.int (w (tw_pl p 0))] σ _
    refine tw_sg 1 (i1 := 9) (ls1 := [.ref 81, .int (nI 0), .ref (2 * c + 18), .int (nI l), .int (nI p), .int x, .int (nI (tw_pl p 0))]) (st1 := [.int x, .int (w (tw_pl p 0))]) (σ1 := σ) rfl ?_
    refine tw_bi (c := .eq) rfl (fun h1 => ?_) (fun h1 => ?_)
    · rw [tw_ceq] at h1
      refine tw_sgn 6 (i1 := 18) (ls0 := [.ref 81, .int (nI 0), .ref (2 * c + 18), .int (nI l), .int (nI p), .int x, .int (nI (tw_pl p 0))]) (st0 := [.int (nI (tw_pl p 0)), .int (nI l + nI 1), .ref 81, .int (nI 1000)]) (σ0 := σ) (ls1 := [.ref 81, .int (nI 0), .ref (2 * c + 18), .int (nI l), .int (nI p), .int x, .int (nI (tw_pl p 0))]) (st1 := [.int (nI (tw_pl p 0)), .int (nI (l + 1)), .ref 81, .int (nI 1000)]) (σ1 := σ) rfl (rfl) (by simp only [tw_nadd, tw_nmul]) (rfl) ?_
      refine tw_cl1 rfl (rfl) (by decide) (tw_e_cost (h := l + 1) (by omega) hpl (hC _ hpl)) ?_
      rintro _ _ ⟨rfl, rfl⟩
      show tw_P L xs _ 42 19 [.ref 81, .int (nI 0), .ref (2 * c + 18), .int (nI l), .int (nI p), .int x, .int (nI (tw_pl p 0))] [.int (nI (C (tw_pl p 0))), .int (nI 1000)] σ _
      refine tw_sg 1 (i1 := 20) (ls1 := [.ref 81, .int (nI 0), .ref (2 * c + 18), .int (nI l), .int (nI p), .int x, .int (nI (tw_pl p 0))]) (st1 := [.int (nI 0), .int (nI (C (tw_pl p 0))), .int (nI 1000)]) (σ1 := σ) rfl ?_
      refine tw_bzF (c := .ne) rfl (by rw [tw_cne', tw_neq (by omega) (by omega)] <;> omega) ?_
      show tw_P L xs _ 42 21 [.ref 81, .int (nI 0), .ref (2 * c + 18), .int (nI l), .int (nI p), .int x, .int (nI (tw_pl p 0))] [.int (nI (C (tw_pl p 0))), .int (nI 1000)] σ _
      refine tw_sgn 3 (i1 := 25) (ls0 := [.ref 81, .int (nI 0), .ref (2 * c + 18), .int (nI l), .int (nI p), .int x, .int (nI (tw_pl p 0))]) (st0 := [.int (nI (C (tw_pl p 0)) + nI 0), .int (nI 1000)]) (σ0 := σ) (ls1 := [.ref 81, .int (nI 0), .ref (2 * c + 18), .int (nI l), .int (nI p), .int x, .int (nI (tw_pl p 0))]) (st1 := [.int (nI ((C (tw_pl p 0)) + 0)), .int (nI 1000)]) (σ1 := σ) rfl (rfl) (by simp only [tw_nadd, tw_nmul]) (rfl) ?_
      refine tw_cl1 rfl (rfl) (by decide) (tw_e_minN (a := 1000) (b := (C (tw_pl p 0)) + 0) (by omega) (by omega)) ?_
      rintro _ _ ⟨rfl, rfl⟩
      show tw_P L xs _ 42 26 [.ref 81, .int (nI 0), .ref (2 * c + 18), .int (nI l), .int (nI p), .int x, .int (nI (tw_pl p 0))] [.int (nI (min 1000 ((C (tw_pl p 0)) + 0)))] σ _
      refine tw_ri rfl (rfl) ?_
      exact ⟨by unfold tw_cb; rw [if_pos (by assumption), if_pos rfl], rfl⟩
    · rw [tw_ceq'] at h1
      refine tw_sg 1 (i1 := 11) (ls1 := [.ref 81, .int (nI 0), .ref (2 * c + 18), .int (nI l), .int (nI p), .int x, .int (nI (tw_pl p 0))]) (st1 := [.int (nI 1000)]) (σ1 := σ) rfl ?_
      refine tw_ri rfl (rfl) ?_
      exact ⟨by unfold tw_cb; rw [if_neg (by assumption)], rfl⟩
  · skip
    show tw_P L xs _ 42 0 [.ref 81, .int (nI t), .ref (2 * c + 18), .int (nI l), .int (nI p), .int x, tw_U] [] σ _
    refine tw_sg 2 (i1 := 2) (ls1 := [.ref 81, .int (nI t), .ref (2 * c + 18), .int (nI l), .int (nI p), .int x, tw_U]) (st1 := [.int (nI t), .int (nI p)]) (σ1 := σ) rfl ?_
    refine tw_cl1 rfl (rfl) (by decide) (tw_e_twistOf (t := t) (by omega)) ?_
    rintro _ _ ⟨rfl, rfl⟩
    show tw_P L xs _ 42 3 [.ref 81, .int (nI t), .ref (2 * c + 18), .int (nI l), .int (nI p), .int x, tw_U] [.int (tw_gI t), .int (nI p)] σ _
    refine tw_cl1 rfl (rfl) (by decide) (tw_E_mono tw_e_behind (fun v σ1 h => (⟨h.1.trans (by rw [tw_fm_pl _ hp _ (by omega)]), h.2⟩ : v = some (.int (nI (tw_pl p t))) ∧ σ = σ1))) ?_
    rintro _ _ ⟨rfl, rfl⟩
    show tw_P L xs _ 42 4 [.ref 81, .int (nI t), .ref (2 * c + 18), .int (nI l), .int (nI p), .int x, tw_U] [.int (nI (tw_pl p t))] σ _
    refine tw_sg 3 (i1 := 7) (ls1 := [.ref 81, .int (nI t), .ref (2 * c + 18), .int (nI l), .int (nI p), .int x, .int (nI (tw_pl p t))]) (st1 := [.int (nI (tw_pl p t)), .ref (2 * c + 18)]) (σ1 := σ) rfl ?_
    refine tw_cl1 rfl (tw_inv_ok (y := 1) (b := 1) (st := [.int (nI (tw_pl p t)), .ref (2 * c + 18)]) (k := (2 * c + 18)) (r := []) rfl rfl (tw_cdO hc)) (by decide) (tw_E_mono (tw_e_colourIn1 hc hpl) (fun v σ1 h => (⟨h.1.trans (by rw [hw _ hpl]), h.2⟩ : v = some (.int (w (tw_pl p t))) ∧ σ = σ1))) ?_
    rintro _ _ ⟨rfl, rfl⟩
    show tw_P L xs _ 42 8 [.ref 81, .int (nI t), .ref (2 * c + 18), .int (nI l), .int (nI p), .int x, .int (nI (tw_pl p t))] [.int (w (tw_pl p t))] σ _
    refine tw_sg 1 (i1 := 9) (ls1 := [.ref 81, .int (nI t), .ref (2 * c + 18), .int (nI l), .int (nI p), .int x, .int (nI (tw_pl p t))]) (st1 := [.int x, .int (w (tw_pl p t))]) (σ1 := σ) rfl ?_
    refine tw_bi (c := .eq) rfl (fun h1 => ?_) (fun h1 => ?_)
    · rw [tw_ceq] at h1
      refine tw_sgn 6 (i1 := 18) (ls0 := [.ref 81, .int (nI t), .ref (2 * c + 18), .int (nI l), .int (nI p), .int x, .int (nI (tw_pl p t))]) (st0 := [.int (nI (tw_pl p t)), .int (nI l + nI 1), .ref 81, .int (nI 1000)]) (σ0 := σ) (ls1 := [.ref 81, .int (nI t), .ref (2 * c + 18), .int (nI l), .int (nI p), .int x, .int (nI (tw_pl p t))]) (st1 := [.int (nI (tw_pl p t)), .int (nI (l + 1)), .ref 81, .int (nI 1000)]) (σ1 := σ) rfl (rfl) (by simp only [tw_nadd, tw_nmul]) (rfl) ?_
      refine tw_cl1 rfl (rfl) (by decide) (tw_e_cost (h := l + 1) (by omega) hpl (hC _ hpl)) ?_
      rintro _ _ ⟨rfl, rfl⟩
      show tw_P L xs _ 42 19 [.ref 81, .int (nI t), .ref (2 * c + 18), .int (nI l), .int (nI p), .int x, .int (nI (tw_pl p t))] [.int (nI (C (tw_pl p t))), .int (nI 1000)] σ _
      refine tw_sg 1 (i1 := 20) (ls1 := [.ref 81, .int (nI t), .ref (2 * c + 18), .int (nI l), .int (nI p), .int x, .int (nI (tw_pl p t))]) (st1 := [.int (nI t), .int (nI (C (tw_pl p t))), .int (nI 1000)]) (σ1 := σ) rfl ?_
      refine tw_bzT (c := .ne) rfl (by rw [tw_cne, tw_neq (by omega) (by omega)] <;> omega) ?_
      show tw_P L xs _ 42 23 [.ref 81, .int (nI t), .ref (2 * c + 18), .int (nI l), .int (nI p), .int x, .int (nI (tw_pl p t))] [.int (nI (C (tw_pl p t))), .int (nI 1000)] σ _
      refine tw_sgn 2 (i1 := 25) (ls0 := [.ref 81, .int (nI t), .ref (2 * c + 18), .int (nI l), .int (nI p), .int x, .int (nI (tw_pl p t))]) (st0 := [.int (nI (C (tw_pl p t)) + nI 1), .int (nI 1000)]) (σ0 := σ) (ls1 := [.ref 81, .int (nI t), .ref (2 * c + 18), .int (nI l), .int (nI p), .int x, .int (nI (tw_pl p t))]) (st1 := [.int (nI ((C (tw_pl p t)) + 1)), .int (nI 1000)]) (σ1 := σ) rfl (rfl) (by simp only [tw_nadd, tw_nmul]) (rfl) ?_
      refine tw_cl1 rfl (rfl) (by decide) (tw_e_minN (a := 1000) (b := (C (tw_pl p t)) + 1) (by omega) (by omega)) ?_
      rintro _ _ ⟨rfl, rfl⟩
      show tw_P L xs _ 42 26 [.ref 81, .int (nI t), .ref (2 * c + 18), .int (nI l), .int (nI p), .int x, .int (nI (tw_pl p t))] [.int (nI (min 1000 ((C (tw_pl p t)) + 1)))] σ _
      refine tw_ri rfl (rfl) ?_
      exact ⟨by unfold tw_cb; rw [if_pos (by assumption), if_neg (by omega)], rfl⟩
    · rw [tw_ceq'] at h1
      refine tw_sg 1 (i1 := 11) (ls1 := [.ref 81, .int (nI t), .ref (2 * c + 18), .int (nI l), .int (nI p), .int x, .int (nI (tw_pl p t))]) (st1 := [.int (nI 1000)]) (σ1 := σ) rfl ?_
      refine tw_ri rfl (rfl) ?_
      exact ⟨by unfold tw_cb; rw [if_neg (by assumption)], rfl⟩
set_option maxHeartbeats 4000000 in
set_option maxRecDepth 100000 in
theorem tw_e_leastC {w : Nat → Int32} {C : Nat → Nat} {l p : Nat} (hc : c < 10) (hl : l < 8) (hp : p < 4) (hw : ∀ h, h < 4 → σ (2 * c + 19) h = w h) (hC : ∀ q, q < 4 → σ 82 ((l + 1) * 4 + q) = nI (C q)) (hC2 : ∀ q, q < 4 → C q ≤ 1000) : tw_E L xs 3 40 [.ref 81, .ref (2 * c + 18), .int (nI l), .int (nI p), .int x] σ (fun v σ1 => v = some (.int (nI (tw_lc w x C p))) ∧ σ = σ1) := by
  have b1 := @tw_cb_le w x C p 1
  have b2 := @tw_cb_le w x C p 2
  have b0 := @tw_cb_le w x C p 0
  have b3 := @tw_lc_le w x C p
  show tw_P L xs _ 40 0 [.ref 81, .ref (2 * c + 18), .int (nI l), .int (nI p), .int x, tw_U, tw_U] [] σ _
  refine tw_sg 6 (i1 := 6) (ls1 := [.ref 81, .ref (2 * c + 18), .int (nI l), .int (nI p), .int x, .int (nI 1000), .int (nI 0)]) (st1 := [.int (nI 3), .int (nI 0)]) (σ1 := σ) rfl ?_
  refine tw_biF (c := .ge) rfl (by rw [tw_cge', tw_nle (by omega) (by omega)] <;> omega) ?_
  show tw_P L xs _ 40 7 [.ref 81, .ref (2 * c + 18), .int (nI l), .int (nI p), .int x, .int (nI 1000), .int (nI 0)] [] σ _
  refine tw_sg 3 (i1 := 10) (ls1 := [.ref 81, .ref (2 * c + 18), .int (nI l), .int (nI p), .int x, .int (nI 1000), .int (nI 0)]) (st1 := [.int (nI 0), .ref 81, .int (nI 1000)]) (σ1 := σ) rfl ?_
  refine tw_cl0 2 rfl (rfl) (by decide) ?_
  show tw_P L xs _ 43 0 [.int (nI 0)] [] σ _
  refine tw_sg 1 (i1 := 1) (ls1 := [.int (nI 0)]) (st1 := [.int (nI 0)]) (σ1 := σ) rfl ?_
  refine tw_bzF (c := .ne) rfl (by rw [tw_cne', tw_neq (by omega) (by omega)] <;> omega) ?_
  show tw_P L xs _ 43 2 [.int (nI 0)] [] σ _
  refine tw_sg 2 (i1 := 10) (ls1 := [.int (nI 0)]) (st1 := [.int (nI 1)]) (σ1 := σ) rfl ?_
  refine tw_ri rfl (rfl) ?_
  show tw_P L xs _ 40 11 [.ref 81, .ref (2 * c + 18), .int (nI l), .int (nI p), .int x, .int (nI 1000), .int (nI 0)] [.int (nI 1), .ref 81, .int (nI 1000)] σ _
  refine tw_sg 4 (i1 := 15) (ls1 := [.ref 81, .ref (2 * c + 18), .int (nI l), .int (nI p), .int x, .int (nI 1000), .int (nI 0)]) (st1 := [.int x, .int (nI p), .int (nI l), .ref (2 * c + 18), .int (nI 1), .ref 81, .int (nI 1000)]) (σ1 := σ) rfl ?_
  refine tw_cl1 rfl (rfl) (by decide) (tw_e_costBy (t := 1) hc hl hp (by decide) hw hC hC2) ?_
  rintro _ _ ⟨rfl, rfl⟩
  show tw_P L xs _ 40 16 [.ref 81, .ref (2 * c + 18), .int (nI l), .int (nI p), .int x, .int (nI 1000), .int (nI 0)] [.int (nI (tw_cb w x C p 1)), .int (nI 1000)] σ _
  refine tw_cl1 rfl (rfl) (by decide) (tw_e_minN (a := 1000) (b := tw_cb w x C p 1) (by omega) (by omega)) ?_
  rintro _ _ ⟨rfl, rfl⟩
  show tw_P L xs _ 40 17 [.ref 81, .ref (2 * c + 18), .int (nI l), .int (nI p), .int x, .int (nI 1000), .int (nI 0)] [.int (nI (min (1000) (tw_cb w x C p 1)))] σ _
  refine tw_sgn 5 (i1 := 6) (ls0 := [.ref 81, .ref (2 * c + 18), .int (nI l), .int (nI p), .int x, .int (nI (min (1000) (tw_cb w x C p 1))), .int (nI 0 + nI 1)]) (st0 := [.int (nI 3), .int (nI 0 + nI 1)]) (σ0 := σ) (ls1 := [.ref 81, .ref (2 * c + 18), .int (nI l), .int (nI p), .int x, .int (nI (min (1000) (tw_cb w x C p 1))), .int (nI 1)]) (st1 := [.int (nI 3), .int (nI 1)]) (σ1 := σ) rfl (by simp only [tw_nadd, tw_nmul]) (by simp only [tw_nadd, tw_nmul]) (rfl) ?_
  refine tw_biF (c := .ge) rfl (by rw [tw_cge', tw_nle (by omega) (by omega)] <;> omega) ?_
  show tw_P L xs _ 40 7 [.ref 81, .ref (2 * c + 18), .int (nI l), .int (nI p), .int x, .int (nI (min (1000) (tw_cb w x C p 1))), .int (nI 1)] [] σ _
  refine tw_sg 3 (i1 := 10) (ls1 := [.ref 81, .ref (2 * c + 18), .int (nI l), .int (nI p), .int x, .int (nI (min (1000) (tw_cb w x C p 1))), .int (nI 1)]) (st1 := [.int (nI 1), .ref 81, .int (nI (min (1000) (tw_cb w x C p 1)))]) (σ1 := σ) rfl ?_
  refine tw_cl0 2 rfl (rfl) (by decide) ?_
  show tw_P L xs _ 43 0 [.int (nI 1)] [] σ _
  refine tw_sg 1 (i1 := 1) (ls1 := [.int (nI 1)]) (st1 := [.int (nI 1)]) (σ1 := σ) rfl ?_
  refine tw_bzT (c := .ne) rfl (by rw [tw_cne, tw_neq (by omega) (by omega)] <;> omega) ?_
  show tw_P L xs _ 43 4 [.int (nI 1)] [] σ _
  refine tw_sg 2 (i1 := 6) (ls1 := [.int (nI 1)]) (st1 := [.int (nI 1), .int (nI 1)]) (σ1 := σ) rfl ?_
  refine tw_biF (c := .ne) rfl (by rw [tw_cne', tw_neq (by omega) (by omega)] <;> omega) ?_
  show tw_P L xs _ 43 7 [.int (nI 1)] [] σ _
  refine tw_sg 2 (i1 := 10) (ls1 := [.int (nI 1)]) (st1 := [.int (nI 2)]) (σ1 := σ) rfl ?_
  refine tw_ri rfl (rfl) ?_
  show tw_P L xs _ 40 11 [.ref 81, .ref (2 * c + 18), .int (nI l), .int (nI p), .int x, .int (nI (min (1000) (tw_cb w x C p 1))), .int (nI 1)] [.int (nI 2), .ref 81, .int (nI (min (1000) (tw_cb w x C p 1)))] σ _
  refine tw_sg 4 (i1 := 15) (ls1 := [.ref 81, .ref (2 * c + 18), .int (nI l), .int (nI p), .int x, .int (nI (min (1000) (tw_cb w x C p 1))), .int (nI 1)]) (st1 := [.int x, .int (nI p), .int (nI l), .ref (2 * c + 18), .int (nI 2), .ref 81, .int (nI (min (1000) (tw_cb w x C p 1)))]) (σ1 := σ) rfl ?_
  refine tw_cl1 rfl (rfl) (by decide) (tw_e_costBy (t := 2) hc hl hp (by decide) hw hC hC2) ?_
  rintro _ _ ⟨rfl, rfl⟩
  show tw_P L xs _ 40 16 [.ref 81, .ref (2 * c + 18), .int (nI l), .int (nI p), .int x, .int (nI (min (1000) (tw_cb w x C p 1))), .int (nI 1)] [.int (nI (tw_cb w x C p 2)), .int (nI (min (1000) (tw_cb w x C p 1)))] σ _
  refine tw_cl1 rfl (rfl) (by decide) (tw_e_minN (a := min (1000) (tw_cb w x C p 1)) (b := tw_cb w x C p 2) (by omega) (by omega)) ?_
  rintro _ _ ⟨rfl, rfl⟩
  show tw_P L xs _ 40 17 [.ref 81, .ref (2 * c + 18), .int (nI l), .int (nI p), .int x, .int (nI (min (1000) (tw_cb w x C p 1))), .int (nI 1)] [.int (nI (min (min (1000) (tw_cb w x C p 1)) (tw_cb w x C p 2)))] σ _
  refine tw_sgn 5 (i1 := 6) (ls0 := [.ref 81, .ref (2 * c + 18), .int (nI l), .int (nI p), .int x, .int (nI (min (min (1000) (tw_cb w x C p 1)) (tw_cb w x C p 2))), .int (nI 1 + nI 1)]) (st0 := [.int (nI 3), .int (nI 1 + nI 1)]) (σ0 := σ) (ls1 := [.ref 81, .ref (2 * c + 18), .int (nI l), .int (nI p), .int x, .int (nI (min (min (1000) (tw_cb w x C p 1)) (tw_cb w x C p 2))), .int (nI 2)]) (st1 := [.int (nI 3), .int (nI 2)]) (σ1 := σ) rfl (by simp only [tw_nadd, tw_nmul]) (by simp only [tw_nadd, tw_nmul]) (rfl) ?_
  refine tw_biF (c := .ge) rfl (by rw [tw_cge', tw_nle (by omega) (by omega)] <;> omega) ?_
  show tw_P L xs _ 40 7 [.ref 81, .ref (2 * c + 18), .int (nI l), .int (nI p), .int x, .int (nI (min (min (1000) (tw_cb w x C p 1)) (tw_cb w x C p 2))), .int (nI 2)] [] σ _
  refine tw_sg 3 (i1 := 10) (ls1 := [.ref 81, .ref (2 * c + 18), .int (nI l), .int (nI p), .int x, .int (nI (min (min (1000) (tw_cb w x C p 1)) (tw_cb w x C p 2))), .int (nI 2)]) (st1 := [.int (nI 2), .ref 81, .int (nI (min (min (1000) (tw_cb w x C p 1)) (tw_cb w x C p 2)))]) (σ1 := σ) rfl ?_
  refine tw_cl0 2 rfl (rfl) (by decide) ?_
  show tw_P L xs _ 43 0 [.int (nI 2)] [] σ _
  refine tw_sg 1 (i1 := 1) (ls1 := [.int (nI 2)]) (st1 := [.int (nI 2)]) (σ1 := σ) rfl ?_
  refine tw_bzT (c := .ne) rfl (by rw [tw_cne, tw_neq (by omega) (by omega)] <;> omega) ?_
  show tw_P L xs _ 43 4 [.int (nI 2)] [] σ _
  refine tw_sg 2 (i1 := 6) (ls1 := [.int (nI 2)]) (st1 := [.int (nI 1), .int (nI 2)]) (σ1 := σ) rfl ?_
  refine tw_biT (c := .ne) rfl (by rw [tw_cne, tw_neq (by omega) (by omega)] <;> omega) ?_
  show tw_P L xs _ 43 9 [.int (nI 2)] [] σ _
  refine tw_sg 1 (i1 := 10) (ls1 := [.int (nI 2)]) (st1 := [.int (nI 0)]) (σ1 := σ) rfl ?_
  refine tw_ri rfl (rfl) ?_
  show tw_P L xs _ 40 11 [.ref 81, .ref (2 * c + 18), .int (nI l), .int (nI p), .int x, .int (nI (min (min (1000) (tw_cb w x C p 1)) (tw_cb w x C p 2))), .int (nI 2)] [.int (nI 0), .ref 81, .int (nI (min (min (1000) (tw_cb w x C p 1)) (tw_cb w x C p 2)))] σ _
  refine tw_sg 4 (i1 := 15) (ls1 := [.ref 81, .ref (2 * c + 18), .int (nI l), .int (nI p), .int x, .int (nI (min (min (1000) (tw_cb w x C p 1)) (tw_cb w x C p 2))), .int (nI 2)]) (st1 := [.int x, .int (nI p), .int (nI l), .ref (2 * c + 18), .int (nI 0), .ref 81, .int (nI (min (min (1000) (tw_cb w x C p 1)) (tw_cb w x C p 2)))]) (σ1 := σ) rfl ?_
  refine tw_cl1 rfl (rfl) (by decide) (tw_e_costBy (t := 0) hc hl hp (by decide) hw hC hC2) ?_
  rintro _ _ ⟨rfl, rfl⟩
  show tw_P L xs _ 40 16 [.ref 81, .ref (2 * c + 18), .int (nI l), .int (nI p), .int x, .int (nI (min (min (1000) (tw_cb w x C p 1)) (tw_cb w x C p 2))), .int (nI 2)] [.int (nI (tw_cb w x C p 0)), .int (nI (min (min (1000) (tw_cb w x C p 1)) (tw_cb w x C p 2)))] σ _
  refine tw_cl1 rfl (rfl) (by decide) (tw_e_minN (a := min (min (1000) (tw_cb w x C p 1)) (tw_cb w x C p 2)) (b := tw_cb w x C p 0) (by omega) (by omega)) ?_
  rintro _ _ ⟨rfl, rfl⟩
  show tw_P L xs _ 40 17 [.ref 81, .ref (2 * c + 18), .int (nI l), .int (nI p), .int x, .int (nI (min (min (1000) (tw_cb w x C p 1)) (tw_cb w x C p 2))), .int (nI 2)] [.int (nI (min (min (min (1000) (tw_cb w x C p 1)) (tw_cb w x C p 2)) (tw_cb w x C p 0)))] σ _
  refine tw_sgn 5 (i1 := 6) (ls0 := [.ref 81, .ref (2 * c + 18), .int (nI l), .int (nI p), .int x, .int (nI (min (min (min (1000) (tw_cb w x C p 1)) (tw_cb w x C p 2)) (tw_cb w x C p 0))), .int (nI 2 + nI 1)]) (st0 := [.int (nI 3), .int (nI 2 + nI 1)]) (σ0 := σ) (ls1 := [.ref 81, .ref (2 * c + 18), .int (nI l), .int (nI p), .int x, .int (nI (min (min (min (1000) (tw_cb w x C p 1)) (tw_cb w x C p 2)) (tw_cb w x C p 0))), .int (nI 3)]) (st1 := [.int (nI 3), .int (nI 3)]) (σ1 := σ) rfl (by simp only [tw_nadd, tw_nmul]) (by simp only [tw_nadd, tw_nmul]) (rfl) ?_
  refine tw_biT (c := .ge) rfl (by rw [tw_cge, tw_nle (by omega) (by omega)] <;> omega) ?_
  show tw_P L xs _ 40 20 [.ref 81, .ref (2 * c + 18), .int (nI l), .int (nI p), .int x, .int (nI (min (min (min (1000) (tw_cb w x C p 1)) (tw_cb w x C p 2)) (tw_cb w x C p 0))), .int (nI 3)] [] σ _
  refine tw_sg 1 (i1 := 21) (ls1 := [.ref 81, .ref (2 * c + 18), .int (nI l), .int (nI p), .int x, .int (nI (min (min (min (1000) (tw_cb w x C p 1)) (tw_cb w x C p 2)) (tw_cb w x C p 0))), .int (nI 3)]) (st1 := [.int (nI (min (min (min (1000) (tw_cb w x C p 1)) (tw_cb w x C p 2)) (tw_cb w x C p 0)))]) (σ1 := σ) rfl ?_
  refine tw_ri rfl (rfl) ?_
  exact ⟨rfl, rfl⟩
set_option maxHeartbeats 4000000 in
set_option maxRecDepth 100000 in
theorem tw_e_best {w : Nat → Int32} {C : Nat → Nat} {l p : Nat} (hc : c < 10) (hl : l < 8) (hp : p < 4) (hw : ∀ h, h < 4 → σ (2 * c + 19) h = w h) (hC : ∀ q, q < 4 → σ 82 ((l + 1) * 4 + q) = nI (C q)) (hC2 : ∀ q, q < 4 → C q ≤ 1000) (hK : σ 82 (l * 4 + p) = nI (tw_lc w x C p)) : tw_E L xs 3 41 [.ref 81, .ref (2 * c + 18), .int (nI l), .int (nI p), .int x] σ (fun v σ1 => v = some (.int (nI (tw_bt w x C p))) ∧ σ = σ1) := by
  have b1 := @tw_cb_le w x C p 1
  have b2 := @tw_cb_le w x C p 2
  have b0 := @tw_cb_le w x C p 0
  have b3 := @tw_lc_le w x C p
  show tw_P L xs _ 41 0 [.ref 81, .ref (2 * c + 18), .int (nI l), .int (nI p), .int x, tw_U] [] σ _
  refine tw_sg 4 (i1 := 4) (ls1 := [.ref 81, .ref (2 * c + 18), .int (nI l), .int (nI p), .int x, .int (nI 0)]) (st1 := [.int (nI 3), .int (nI 0)]) (σ1 := σ) rfl ?_
  refine tw_biF (c := .ge) rfl (by rw [tw_cge', tw_nle (by omega) (by omega)] <;> omega) ?_
  show tw_P L xs _ 41 5 [.ref 81, .ref (2 * c + 18), .int (nI l), .int (nI p), .int x, .int (nI 0)] [] σ _
  refine tw_sg 2 (i1 := 7) (ls1 := [.ref 81, .ref (2 * c + 18), .int (nI l), .int (nI p), .int x, .int (nI 0)]) (st1 := [.int (nI 0), .ref 81]) (σ1 := σ) rfl ?_
  refine tw_cl0 2 rfl (rfl) (by decide) ?_
  show tw_P L xs _ 43 0 [.int (nI 0)] [] σ _
  refine tw_sg 1 (i1 := 1) (ls1 := [.int (nI 0)]) (st1 := [.int (nI 0)]) (σ1 := σ) rfl ?_
  refine tw_bzF (c := .ne) rfl (by rw [tw_cne', tw_neq (by omega) (by omega)] <;> omega) ?_
  show tw_P L xs _ 43 2 [.int (nI 0)] [] σ _
  refine tw_sg 2 (i1 := 10) (ls1 := [.int (nI 0)]) (st1 := [.int (nI 1)]) (σ1 := σ) rfl ?_
  refine tw_ri rfl (rfl) ?_
  show tw_P L xs _ 41 8 [.ref 81, .ref (2 * c + 18), .int (nI l), .int (nI p), .int x, .int (nI 0)] [.int (nI 1), .ref 81] σ _
  refine tw_sg 4 (i1 := 12) (ls1 := [.ref 81, .ref (2 * c + 18), .int (nI l), .int (nI p), .int x, .int (nI 0)]) (st1 := [.int x, .int (nI p), .int (nI l), .ref (2 * c + 18), .int (nI 1), .ref 81]) (σ1 := σ) rfl ?_
  refine tw_cl1 rfl (rfl) (by decide) (tw_e_costBy (t := 1) hc hl hp (by decide) hw hC hC2) ?_
  rintro _ _ ⟨rfl, rfl⟩
  show tw_P L xs _ 41 13 [.ref 81, .ref (2 * c + 18), .int (nI l), .int (nI p), .int x, .int (nI 0)] [.int (nI (tw_cb w x C p 1))] σ _
  refine tw_sg 3 (i1 := 16) (ls1 := [.ref 81, .ref (2 * c + 18), .int (nI l), .int (nI p), .int x, .int (nI 0)]) (st1 := [.int (nI p), .int (nI l), .ref 81, .int (nI (tw_cb w x C p 1))]) (σ1 := σ) rfl ?_
  refine tw_cl1 rfl (rfl) (by decide) (tw_e_cost (by omega) hp hK) ?_
  rintro _ _ ⟨rfl, rfl⟩
  show tw_P L xs _ 41 17 [.ref 81, .ref (2 * c + 18), .int (nI l), .int (nI p), .int x, .int (nI 0)] [.int (nI (tw_lc w x C p)), .int (nI (tw_cb w x C p 1))] σ _
  refine tw_bi (c := .ne) rfl (fun h1 => ?_) (fun h1 => ?_)
  · rw [tw_cne] at h1; have h1n := h1; rw [tw_neq (by omega) (by omega)] at h1n
    refine tw_sgn 4 (i1 := 4) (ls0 := [.ref 81, .ref (2 * c + 18), .int (nI l), .int (nI p), .int x, .int (nI 0 + nI 1)]) (st0 := [.int (nI 3), .int (nI 0 + nI 1)]) (σ0 := σ) (ls1 := [.ref 81, .ref (2 * c + 18), .int (nI l), .int (nI p), .int x, .int (nI 1)]) (st1 := [.int (nI 3), .int (nI 1)]) (σ1 := σ) rfl (by simp only [tw_nadd, tw_nmul]) (by simp only [tw_nadd, tw_nmul]) (rfl) ?_
    refine tw_biF (c := .ge) rfl (by rw [tw_cge', tw_nle (by omega) (by omega)] <;> omega) ?_
    show tw_P L xs _ 41 5 [.ref 81, .ref (2 * c + 18), .int (nI l), .int (nI p), .int x, .int (nI 1)] [] σ _
    refine tw_sg 2 (i1 := 7) (ls1 := [.ref 81, .ref (2 * c + 18), .int (nI l), .int (nI p), .int x, .int (nI 1)]) (st1 := [.int (nI 1), .ref 81]) (σ1 := σ) rfl ?_
    refine tw_cl0 2 rfl (rfl) (by decide) ?_
    show tw_P L xs _ 43 0 [.int (nI 1)] [] σ _
    refine tw_sg 1 (i1 := 1) (ls1 := [.int (nI 1)]) (st1 := [.int (nI 1)]) (σ1 := σ) rfl ?_
    refine tw_bzT (c := .ne) rfl (by rw [tw_cne, tw_neq (by omega) (by omega)] <;> omega) ?_
    show tw_P L xs _ 43 4 [.int (nI 1)] [] σ _
    refine tw_sg 2 (i1 := 6) (ls1 := [.int (nI 1)]) (st1 := [.int (nI 1), .int (nI 1)]) (σ1 := σ) rfl ?_
    refine tw_biF (c := .ne) rfl (by rw [tw_cne', tw_neq (by omega) (by omega)] <;> omega) ?_
    show tw_P L xs _ 43 7 [.int (nI 1)] [] σ _
    refine tw_sg 2 (i1 := 10) (ls1 := [.int (nI 1)]) (st1 := [.int (nI 2)]) (σ1 := σ) rfl ?_
    refine tw_ri rfl (rfl) ?_
    show tw_P L xs _ 41 8 [.ref 81, .ref (2 * c + 18), .int (nI l), .int (nI p), .int x, .int (nI 1)] [.int (nI 2), .ref 81] σ _
    refine tw_sg 4 (i1 := 12) (ls1 := [.ref 81, .ref (2 * c + 18), .int (nI l), .int (nI p), .int x, .int (nI 1)]) (st1 := [.int x, .int (nI p), .int (nI l), .ref (2 * c + 18), .int (nI 2), .ref 81]) (σ1 := σ) rfl ?_
    refine tw_cl1 rfl (rfl) (by decide) (tw_e_costBy (t := 2) hc hl hp (by decide) hw hC hC2) ?_
    rintro _ _ ⟨rfl, rfl⟩
    show tw_P L xs _ 41 13 [.ref 81, .ref (2 * c + 18), .int (nI l), .int (nI p), .int x, .int (nI 1)] [.int (nI (tw_cb w x C p 2))] σ _
    refine tw_sg 3 (i1 := 16) (ls1 := [.ref 81, .ref (2 * c + 18), .int (nI l), .int (nI p), .int x, .int (nI 1)]) (st1 := [.int (nI p), .int (nI l), .ref 81, .int (nI (tw_cb w x C p 2))]) (σ1 := σ) rfl ?_
    refine tw_cl1 rfl (rfl) (by decide) (tw_e_cost (by omega) hp hK) ?_
    rintro _ _ ⟨rfl, rfl⟩
    show tw_P L xs _ 41 17 [.ref 81, .ref (2 * c + 18), .int (nI l), .int (nI p), .int x, .int (nI 1)] [.int (nI (tw_lc w x C p)), .int (nI (tw_cb w x C p 2))] σ _
    refine tw_bi (c := .ne) rfl (fun h2 => ?_) (fun h2 => ?_)
    · rw [tw_cne] at h2; have h2n := h2; rw [tw_neq (by omega) (by omega)] at h2n
      refine tw_sgn 4 (i1 := 4) (ls0 := [.ref 81, .ref (2 * c + 18), .int (nI l), .int (nI p), .int x, .int (nI 1 + nI 1)]) (st0 := [.int (nI 3), .int (nI 1 + nI 1)]) (σ0 := σ) (ls1 := [.ref 81, .ref (2 * c + 18), .int (nI l), .int (nI p), .int x, .int (nI 2)]) (st1 := [.int (nI 3), .int (nI 2)]) (σ1 := σ) rfl (by simp only [tw_nadd, tw_nmul]) (by simp only [tw_nadd, tw_nmul]) (rfl) ?_
      refine tw_biF (c := .ge) rfl (by rw [tw_cge', tw_nle (by omega) (by omega)] <;> omega) ?_
      show tw_P L xs _ 41 5 [.ref 81, .ref (2 * c + 18), .int (nI l), .int (nI p), .int x, .int (nI 2)] [] σ _
      refine tw_sg 2 (i1 := 7) (ls1 := [.ref 81, .ref (2 * c + 18), .int (nI l), .int (nI p), .int x, .int (nI 2)]) (st1 := [.int (nI 2), .ref 81]) (σ1 := σ) rfl ?_
      refine tw_cl0 2 rfl (rfl) (by decide) ?_
      show tw_P L xs _ 43 0 [.int (nI 2)] [] σ _
      refine tw_sg 1 (i1 := 1) (ls1 := [.int (nI 2)]) (st1 := [.int (nI 2)]) (σ1 := σ) rfl ?_
      refine tw_bzT (c := .ne) rfl (by rw [tw_cne, tw_neq (by omega) (by omega)] <;> omega) ?_
      show tw_P L xs _ 43 4 [.int (nI 2)] [] σ _
      refine tw_sg 2 (i1 := 6) (ls1 := [.int (nI 2)]) (st1 := [.int (nI 1), .int (nI 2)]) (σ1 := σ) rfl ?_
      refine tw_biT (c := .ne) rfl (by rw [tw_cne, tw_neq (by omega) (by omega)] <;> omega) ?_
      show tw_P L xs _ 43 9 [.int (nI 2)] [] σ _
      refine tw_sg 1 (i1 := 10) (ls1 := [.int (nI 2)]) (st1 := [.int (nI 0)]) (σ1 := σ) rfl ?_
      refine tw_ri rfl (rfl) ?_
      show tw_P L xs _ 41 8 [.ref 81, .ref (2 * c + 18), .int (nI l), .int (nI p), .int x, .int (nI 2)] [.int (nI 0), .ref 81] σ _
      refine tw_sg 4 (i1 := 12) (ls1 := [.ref 81, .ref (2 * c + 18), .int (nI l), .int (nI p), .int x, .int (nI 2)]) (st1 := [.int x, .int (nI p), .int (nI l), .ref (2 * c + 18), .int (nI 0), .ref 81]) (σ1 := σ) rfl ?_
      refine tw_cl1 rfl (rfl) (by decide) (tw_e_costBy (t := 0) hc hl hp (by decide) hw hC hC2) ?_
      rintro _ _ ⟨rfl, rfl⟩
      show tw_P L xs _ 41 13 [.ref 81, .ref (2 * c + 18), .int (nI l), .int (nI p), .int x, .int (nI 2)] [.int (nI (tw_cb w x C p 0))] σ _
      refine tw_sg 3 (i1 := 16) (ls1 := [.ref 81, .ref (2 * c + 18), .int (nI l), .int (nI p), .int x, .int (nI 2)]) (st1 := [.int (nI p), .int (nI l), .ref 81, .int (nI (tw_cb w x C p 0))]) (σ1 := σ) rfl ?_
      refine tw_cl1 rfl (rfl) (by decide) (tw_e_cost (by omega) hp hK) ?_
      rintro _ _ ⟨rfl, rfl⟩
      show tw_P L xs _ 41 17 [.ref 81, .ref (2 * c + 18), .int (nI l), .int (nI p), .int x, .int (nI 2)] [.int (nI (tw_lc w x C p)), .int (nI (tw_cb w x C p 0))] σ _
      refine tw_bi (c := .ne) rfl (fun h3 => ?_) (fun h3 => ?_)
      · rw [tw_cne] at h3; have h3n := h3; rw [tw_neq (by omega) (by omega)] at h3n
        refine tw_sgn 4 (i1 := 4) (ls0 := [.ref 81, .ref (2 * c + 18), .int (nI l), .int (nI p), .int x, .int (nI 2 + nI 1)]) (st0 := [.int (nI 3), .int (nI 2 + nI 1)]) (σ0 := σ) (ls1 := [.ref 81, .ref (2 * c + 18), .int (nI l), .int (nI p), .int x, .int (nI 3)]) (st1 := [.int (nI 3), .int (nI 3)]) (σ1 := σ) rfl (by simp only [tw_nadd, tw_nmul]) (by simp only [tw_nadd, tw_nmul]) (rfl) ?_
        refine tw_biT (c := .ge) rfl (by rw [tw_cge, tw_nle (by omega) (by omega)] <;> omega) ?_
        show tw_P L xs _ 41 23 [.ref 81, .ref (2 * c + 18), .int (nI l), .int (nI p), .int x, .int (nI 3)] [] σ _
        refine tw_sg 1 (i1 := 24) (ls1 := [.ref 81, .ref (2 * c + 18), .int (nI l), .int (nI p), .int x, .int (nI 3)]) (st1 := [.int (nI 0)]) (σ1 := σ) rfl ?_
        refine tw_ri rfl (rfl) ?_
        exact ⟨by unfold tw_bt; first | rw [if_pos (by assumption)] | (rw [if_neg (by assumption)]; first | rw [if_pos (by assumption)] | rw [if_neg (by assumption)]), rfl⟩
      · rw [tw_cne'] at h3; have h3n := h3; rw [tw_neq (by omega) (by omega)] at h3n
        refine tw_sg 1 (i1 := 19) (ls1 := [.ref 81, .ref (2 * c + 18), .int (nI l), .int (nI p), .int x, .int (nI 2)]) (st1 := [.int (nI 2)]) (σ1 := σ) rfl ?_
        refine tw_cl0 2 rfl (rfl) (by decide) ?_
        show tw_P L xs _ 43 0 [.int (nI 2)] [] σ _
        refine tw_sg 1 (i1 := 1) (ls1 := [.int (nI 2)]) (st1 := [.int (nI 2)]) (σ1 := σ) rfl ?_
        refine tw_bzT (c := .ne) rfl (by rw [tw_cne, tw_neq (by omega) (by omega)] <;> omega) ?_
        show tw_P L xs _ 43 4 [.int (nI 2)] [] σ _
        refine tw_sg 2 (i1 := 6) (ls1 := [.int (nI 2)]) (st1 := [.int (nI 1), .int (nI 2)]) (σ1 := σ) rfl ?_
        refine tw_biT (c := .ne) rfl (by rw [tw_cne, tw_neq (by omega) (by omega)] <;> omega) ?_
        show tw_P L xs _ 43 9 [.int (nI 2)] [] σ _
        refine tw_sg 1 (i1 := 10) (ls1 := [.int (nI 2)]) (st1 := [.int (nI 0)]) (σ1 := σ) rfl ?_
        refine tw_ri rfl (rfl) ?_
        show tw_P L xs _ 41 20 [.ref 81, .ref (2 * c + 18), .int (nI l), .int (nI p), .int x, .int (nI 2)] [.int (nI 0)] σ _
        refine tw_ri rfl (rfl) ?_
        exact ⟨by unfold tw_bt; first | rw [if_pos (by assumption)] | (rw [if_neg (by assumption)]; first | rw [if_pos (by assumption)] | rw [if_neg (by assumption)]), rfl⟩
    · rw [tw_cne'] at h2; have h2n := h2; rw [tw_neq (by omega) (by omega)] at h2n
      refine tw_sg 1 (i1 := 19) (ls1 := [.ref 81, .ref (2 * c + 18), .int (nI l), .int (nI p), .int x, .int (nI 1)]) (st1 := [.int (nI 1)]) (σ1 := σ) rfl ?_
      refine tw_cl0 2 rfl (rfl) (by decide) ?_
      show tw_P L xs _ 43 0 [.int (nI 1)] [] σ _
      refine tw_sg 1 (i1 := 1) (ls1 := [.int (nI 1)]) (st1 := [.int (nI 1)]) (σ1 := σ) rfl ?_
      refine tw_bzT (c := .ne) rfl (by rw [tw_cne, tw_neq (by omega) (by omega)] <;> omega) ?_
      show tw_P L xs _ 43 4 [.int (nI 1)] [] σ _
      refine tw_sg 2 (i1 := 6) (ls1 := [.int (nI 1)]) (st1 := [.int (nI 1), .int (nI 1)]) (σ1 := σ) rfl ?_
      refine tw_biF (c := .ne) rfl (by rw [tw_cne', tw_neq (by omega) (by omega)] <;> omega) ?_
      show tw_P L xs _ 43 7 [.int (nI 1)] [] σ _
      refine tw_sg 2 (i1 := 10) (ls1 := [.int (nI 1)]) (st1 := [.int (nI 2)]) (σ1 := σ) rfl ?_
      refine tw_ri rfl (rfl) ?_
      show tw_P L xs _ 41 20 [.ref 81, .ref (2 * c + 18), .int (nI l), .int (nI p), .int x, .int (nI 1)] [.int (nI 2)] σ _
      refine tw_ri rfl (rfl) ?_
      exact ⟨by unfold tw_bt; first | rw [if_pos (by assumption)] | (rw [if_neg (by assumption)]; first | rw [if_pos (by assumption)] | rw [if_neg (by assumption)]), rfl⟩
  · rw [tw_cne'] at h1; have h1n := h1; rw [tw_neq (by omega) (by omega)] at h1n
    refine tw_sg 1 (i1 := 19) (ls1 := [.ref 81, .ref (2 * c + 18), .int (nI l), .int (nI p), .int x, .int (nI 0)]) (st1 := [.int (nI 0)]) (σ1 := σ) rfl ?_
    refine tw_cl0 2 rfl (rfl) (by decide) ?_
    show tw_P L xs _ 43 0 [.int (nI 0)] [] σ _
    refine tw_sg 1 (i1 := 1) (ls1 := [.int (nI 0)]) (st1 := [.int (nI 0)]) (σ1 := σ) rfl ?_
    refine tw_bzF (c := .ne) rfl (by rw [tw_cne', tw_neq (by omega) (by omega)] <;> omega) ?_
    show tw_P L xs _ 43 2 [.int (nI 0)] [] σ _
    refine tw_sg 2 (i1 := 10) (ls1 := [.int (nI 0)]) (st1 := [.int (nI 1)]) (σ1 := σ) rfl ?_
    refine tw_ri rfl (rfl) ?_
    show tw_P L xs _ 41 20 [.ref 81, .ref (2 * c + 18), .int (nI l), .int (nI p), .int x, .int (nI 0)] [.int (nI 1)] σ _
    refine tw_ri rfl (rfl) ?_
    exact ⟨by unfold tw_bt; first | rw [if_pos (by assumption)] | (rw [if_neg (by assumption)]; first | rw [if_pos (by assumption)] | rw [if_neg (by assumption)]), rfl⟩
def tw_plS (σ0 σ : tw_Mem) (w pc : Nat → Int32) (H m : Nat) : Prop := (∀ k j, ¬ k = 82 → σ k j = σ0 k j) ∧ ∀ l, m ≤ l → l ≤ H → ∀ p, p < 4 → σ 82 (l * 4 + p) = nI (tw_ct w pc H (H - l) p)
theorem tw_plS.step {σ0 σ : tw_Mem} {w pc : Nat → Int32} {H m : Nat} (h : tw_plS σ0 σ w pc H (m + 1)) (hm : m < H) {K : Nat → Nat} (hK : K = fun p => tw_lc w (pc m) (fun q => tw_ct w pc H (H - (m + 1)) q) p) : tw_plS σ0 (tw_upd (tw_upd (tw_upd (tw_upd σ 82 (m * 4 + 0) (nI (K 0))) 82 (m * 4 + 1) (nI (K 1))) 82 (m * 4 + 2) (nI (K 2))) 82 (m * 4 + 3) (nI (K 3))) w pc H m := by
  refine ⟨fun k j g => ?_, fun l l1 l2 p hp => ?_⟩
  · rw [tw_upd_off (by omega), tw_upd_off (by omega), tw_upd_off (by omega), tw_upd_off (by omega)]; exact h.1 k j g
  · by_cases z : l = m
    · subst z
      rw [tw_ct_ln hm]
      rcases (show p = 0 ∨ p = 1 ∨ p = 2 ∨ p = 3 by omega) with rfl | rfl | rfl | rfl
      · rw [tw_upd_off (by omega), tw_upd_off (by omega), tw_upd_off (by omega), tw_upd_at, hK]
      · rw [tw_upd_off (by omega), tw_upd_off (by omega), tw_upd_at, hK]
      · rw [tw_upd_off (by omega), tw_upd_at, hK]
      · rw [tw_upd_at, hK]
    · rw [tw_upd_off (by omega), tw_upd_off (by omega), tw_upd_off (by omega), tw_upd_off (by omega)]; exact h.2 l (by omega) l2 p hp
set_option maxHeartbeats 4000000 in
set_option maxRecDepth 100000 in
theorem tw_l_plan {Q : Option Value → tw_Mem → Prop} {σ0 : tw_Mem} {w pc : Nat → Int32} {H c : Nat} (hc : c < 10) (hH : H ≤ 8) (h79 : σ0 79 1 = nI H) (hw : ∀ h, h < 4 → σ0 (2 * c + 19) h = w h) (hpc : ∀ l, l < H → σ0 80 (10 * l + c) = pc l) : ∀ (m : Nat) (σ : tw_Mem) (u : Value), m ≤ H → tw_plS σ0 σ w pc H m → (∀ τ u, tw_plS σ0 τ w pc H 0 → tw_P L xs 5 38 45 [.ref 81, .ref (2 * c + 18), .ref 79, .int (nI c), .int (nI H), .int (nI 0 + (-1)), u] [] τ Q) → tw_P L xs 5 38 21 [.ref 81, .ref (2 * c + 18), .ref 79, .int (nI c), .int (nI H), .int (nI m + (-1)), u] [] σ Q := by
  intro m
  induction m with
  | zero =>
    intro σ u hm hI hQ
    refine tw_sg 1 (i1 := 22) (ls1 := [.ref 81, .ref (2 * c + 18), .ref 79, .int (nI c), .int (nI H), .int (nI 0 + (-1)), u]) (st1 := [.int (nI 0 + (-1))]) (σ1 := σ) rfl ?_
    refine tw_bzT (c := .lt) rfl (by rw [tw_clt] <;> (exact (by decide))) ?_
    show tw_P L xs _ 38 45 [.ref 81, .ref (2 * c + 18), .ref 79, .int (nI c), .int (nI H), .int (nI 0 + (-1)), u] [] σ _
    exact hQ σ u hI
  | succ m ih =>
    intro σ u hm hI hQ
    rw [tw_m1s]
    refine tw_sg 1 (i1 := 22) (ls1 := [.ref 81, .ref (2 * c + 18), .ref 79, .int (nI c), .int (nI H), .int (nI m), u]) (st1 := [.int (nI m)]) (σ1 := σ) rfl ?_
    refine tw_bzF (c := .lt) rfl (by rw [tw_clt', tw_nlt (by omega) (by omega)] <;> omega) ?_
    show tw_P L xs _ 38 23 [.ref 81, .ref (2 * c + 18), .ref 79, .int (nI c), .int (nI H), .int (nI m), u] [] σ _
    refine tw_sg 4 (i1 := 27) (ls1 := [.ref 81, .ref (2 * c + 18), .ref 79, .int (nI c), .int (nI H), .int (nI m), .int (nI 0)]) (st1 := [.int (nI 4), .int (nI 0)]) (σ1 := σ) rfl ?_
    refine tw_biF (c := .ge) rfl (by rw [tw_cge', tw_nle (by omega) (by omega)] <;> omega) ?_
    show tw_P L xs _ 38 28 [.ref 81, .ref (2 * c + 18), .ref 79, .int (nI c), .int (nI H), .int (nI m), .int (nI 0)] [] σ _
    refine tw_sg 10 (i1 := 38) (ls1 := [.ref 81, .ref (2 * c + 18), .ref 79, .int (nI c), .int (nI H), .int (nI m), .int (nI 0)]) (st1 := [.int (nI c), .int (nI m), .ref 79, .int (nI 0), .int (nI m), .ref (2 * c + 18), .ref 81, .int (nI 0), .int (nI m), .ref 81]) (σ1 := σ) rfl ?_
    refine tw_cl1 rfl (rfl) (by decide) (tw_E_mono (tw_e_at1 (h := H) (p := fun j => σ0 80 j) (by repeat (first | exact (hI.1 79 1 (by omega)).trans h79 | rw [tw_upd_off (by omega)])) hH (fun j hj => by repeat (first | exact hI.1 80 j (by omega) | rw [tw_upd_off (by omega)])) (k := m) (c := c) (by omega) hc) (fun v σ1 h => (⟨h.1.trans (by rw [hpc _ (by omega)]), h.2⟩ : v = some (.int (pc m)) ∧ σ = σ1))) ?_
    rintro _ _ ⟨rfl, rfl⟩
    show tw_P L xs _ 38 39 [.ref 81, .ref (2 * c + 18), .ref 79, .int (nI c), .int (nI H), .int (nI m), .int (nI 0)] [.int (pc m), .int (nI 0), .int (nI m), .ref (2 * c + 18), .ref 81, .int (nI 0), .int (nI m), .ref 81] σ _
    refine tw_cl1 rfl (rfl) (by decide) (tw_e_leastC (w := w) (x := pc m) (C := (fun q => tw_ct w pc H (H - (m + 1)) q)) hc (by omega) (by omega) (fun h hh => by repeat (first | exact (hI.1 _ _ (by omega)).trans (hw h hh) | rw [tw_upd_off (by omega)])) (fun q hq => by repeat (first | exact hI.2 (m + 1) (Nat.le_refl _) (by omega) q hq | rw [tw_upd_off (by omega)])) (fun q hq => tw_ct_le _ _)) ?_
    rintro _ _ ⟨rfl, rfl⟩
    show tw_P L xs _ 38 40 [.ref 81, .ref (2 * c + 18), .ref 79, .int (nI c), .int (nI H), .int (nI m), .int (nI 0)] [.int (nI (tw_lc w (pc m) (fun q => tw_ct w pc H (H - (m + 1)) q) 0)), .int (nI 0), .int (nI m), .ref 81] σ _
    refine tw_cl1 rfl (rfl) (by decide) (tw_e_setCost (by omega) (by omega)) ?_
    rintro _ _ ⟨rfl, rfl⟩
    show tw_P L xs _ 38 41 [.ref 81, .ref (2 * c + 18), .ref 79, .int (nI c), .int (nI H), .int (nI m), .int (nI 0)] [] (tw_upd σ 82 (m * 4 + 0) (nI (tw_lc w (pc m) (fun q => tw_ct w pc H (H - (m + 1)) q) 0))) _
    refine tw_sgn 4 (i1 := 27) (ls0 := [.ref 81, .ref (2 * c + 18), .ref 79, .int (nI c), .int (nI H), .int (nI m), .int (nI 0 + nI 1)]) (st0 := [.int (nI 4), .int (nI 0 + nI 1)]) (σ0 := (tw_upd σ 82 (m * 4 + 0) (nI (tw_lc w (pc m) (fun q => tw_ct w pc H (H - (m + 1)) q) 0)))) (ls1 := [.ref 81, .ref (2 * c + 18), .ref 79, .int (nI c), .int (nI H), .int (nI m), .int (nI 1)]) (st1 := [.int (nI 4), .int (nI 1)]) (σ1 := (tw_upd σ 82 (m * 4 + 0) (nI (tw_lc w (pc m) (fun q => tw_ct w pc H (H - (m + 1)) q) 0)))) rfl (by simp only [tw_nadd, tw_nmul]) (by simp only [tw_nadd, tw_nmul]) (rfl) ?_
    refine tw_biF (c := .ge) rfl (by rw [tw_cge', tw_nle (by omega) (by omega)] <;> omega) ?_
    show tw_P L xs _ 38 28 [.ref 81, .ref (2 * c + 18), .ref 79, .int (nI c), .int (nI H), .int (nI m), .int (nI 1)] [] (tw_upd σ 82 (m * 4 + 0) (nI (tw_lc w (pc m) (fun q => tw_ct w pc H (H - (m + 1)) q) 0))) _
    refine tw_sg 10 (i1 := 38) (ls1 := [.ref 81, .ref (2 * c + 18), .ref 79, .int (nI c), .int (nI H), .int (nI m), .int (nI 1)]) (st1 := [.int (nI c), .int (nI m), .ref 79, .int (nI 1), .int (nI m), .ref (2 * c + 18), .ref 81, .int (nI 1), .int (nI m), .ref 81]) (σ1 := (tw_upd σ 82 (m * 4 + 0) (nI (tw_lc w (pc m) (fun q => tw_ct w pc H (H - (m + 1)) q) 0)))) rfl ?_
    refine tw_cl1 rfl (rfl) (by decide) (tw_E_mono (tw_e_at1 (h := H) (p := fun j => σ0 80 j) (by repeat (first | exact (hI.1 79 1 (by omega)).trans h79 | rw [tw_upd_off (by omega)])) hH (fun j hj => by repeat (first | exact hI.1 80 j (by omega) | rw [tw_upd_off (by omega)])) (k := m) (c := c) (by omega) hc) (fun v σ1 h => (⟨h.1.trans (by rw [hpc _ (by omega)]), h.2⟩ : v = some (.int (pc m)) ∧ (tw_upd σ 82 (m * 4 + 0) (nI (tw_lc w (pc m) (fun q => tw_ct w pc H (H - (m + 1)) q) 0))) = σ1))) ?_
    rintro _ _ ⟨rfl, rfl⟩
    show tw_P L xs _ 38 39 [.ref 81, .ref (2 * c + 18), .ref 79, .int (nI c), .int (nI H), .int (nI m), .int (nI 1)] [.int (pc m), .int (nI 1), .int (nI m), .ref (2 * c + 18), .ref 81, .int (nI 1), .int (nI m), .ref 81] (tw_upd σ 82 (m * 4 + 0) (nI (tw_lc w (pc m) (fun q => tw_ct w pc H (H - (m + 1)) q) 0))) _
    refine tw_cl1 rfl (rfl) (by decide) (tw_e_leastC (w := w) (x := pc m) (C := (fun q => tw_ct w pc H (H - (m + 1)) q)) hc (by omega) (by omega) (fun h hh => by repeat (first | exact (hI.1 _ _ (by omega)).trans (hw h hh) | rw [tw_upd_off (by omega)])) (fun q hq => by repeat (first | exact hI.2 (m + 1) (Nat.le_refl _) (by omega) q hq | rw [tw_upd_off (by omega)])) (fun q hq => tw_ct_le _ _)) ?_
    rintro _ _ ⟨rfl, rfl⟩
    show tw_P L xs _ 38 40 [.ref 81, .ref (2 * c + 18), .ref 79, .int (nI c), .int (nI H), .int (nI m), .int (nI 1)] [.int (nI (tw_lc w (pc m) (fun q => tw_ct w pc H (H - (m + 1)) q) 1)), .int (nI 1), .int (nI m), .ref 81] (tw_upd σ 82 (m * 4 + 0) (nI (tw_lc w (pc m) (fun q => tw_ct w pc H (H - (m + 1)) q) 0))) _
    refine tw_cl1 rfl (rfl) (by decide) (tw_e_setCost (by omega) (by omega)) ?_
    rintro _ _ ⟨rfl, rfl⟩
    show tw_P L xs _ 38 41 [.ref 81, .ref (2 * c + 18), .ref 79, .int (nI c), .int (nI H), .int (nI m), .int (nI 1)] [] (tw_upd (tw_upd σ 82 (m * 4 + 0) (nI (tw_lc w (pc m) (fun q => tw_ct w pc H (H - (m + 1)) q) 0))) 82 (m * 4 + 1) (nI (tw_lc w (pc m) (fun q => tw_ct w pc H (H - (m + 1)) q) 1))) _
    refine tw_sgn 4 (i1 := 27) (ls0 := [.ref 81, .ref (2 * c + 18), .ref 79, .int (nI c), .int (nI H), .int (nI m), .int (nI 1 + nI 1)]) (st0 := [.int (nI 4), .int (nI 1 + nI 1)]) (σ0 := (tw_upd (tw_upd σ 82 (m * 4 + 0) (nI (tw_lc w (pc m) (fun q => tw_ct w pc H (H - (m + 1)) q) 0))) 82 (m * 4 + 1) (nI (tw_lc w (pc m) (fun q => tw_ct w pc H (H - (m + 1)) q) 1)))) (ls1 := [.ref 81, .ref (2 * c + 18), .ref 79, .int (nI c), .int (nI H), .int (nI m), .int (nI 2)]) (st1 := [.int (nI 4), .int (nI 2)]) (σ1 := (tw_upd (tw_upd σ 82 (m * 4 + 0) (nI (tw_lc w (pc m) (fun q => tw_ct w pc H (H - (m + 1)) q) 0))) 82 (m * 4 + 1) (nI (tw_lc w (pc m) (fun q => tw_ct w pc H (H - (m + 1)) q) 1)))) rfl (by simp only [tw_nadd, tw_nmul]) (by simp only [tw_nadd, tw_nmul]) (rfl) ?_
    refine tw_biF (c := .ge) rfl (by rw [tw_cge', tw_nle (by omega) (by omega)] <;> omega) ?_
    show tw_P L xs _ 38 28 [.ref 81, .ref (2 * c + 18), .ref 79, .int (nI c), .int (nI H), .int (nI m), .int (nI 2)] [] (tw_upd (tw_upd σ 82 (m * 4 + 0) (nI (tw_lc w (pc m) (fun q => tw_ct w pc H (H - (m + 1)) q) 0))) 82 (m * 4 + 1) (nI (tw_lc w (pc m) (fun q => tw_ct w pc H (H - (m + 1)) q) 1))) _
    refine tw_sg 10 (i1 := 38) (ls1 := [.ref 81, .ref (2 * c + 18), .ref 79, .int (nI c), .int (nI H), .int (nI m), .int (nI 2)]) (st1 := [.int (nI c), .int (nI m), .ref 79, .int (nI 2), .int (nI m), .ref (2 * c + 18), .ref 81, .int (nI 2), .int (nI m), .ref 81]) (σ1 := (tw_upd (tw_upd σ 82 (m * 4 + 0) (nI (tw_lc w (pc m) (fun q => tw_ct w pc H (H - (m + 1)) q) 0))) 82 (m * 4 + 1) (nI (tw_lc w (pc m) (fun q => tw_ct w pc H (H - (m + 1)) q) 1)))) rfl ?_
    refine tw_cl1 rfl (rfl) (by decide) (tw_E_mono (tw_e_at1 (h := H) (p := fun j => σ0 80 j) (by repeat (first | exact (hI.1 79 1 (by omega)).trans h79 | rw [tw_upd_off (by omega)])) hH (fun j hj => by repeat (first | exact hI.1 80 j (by omega) | rw [tw_upd_off (by omega)])) (k := m) (c := c) (by omega) hc) (fun v σ1 h => (⟨h.1.trans (by rw [hpc _ (by omega)]), h.2⟩ : v = some (.int (pc m)) ∧ (tw_upd (tw_upd σ 82 (m * 4 + 0) (nI (tw_lc w (pc m) (fun q => tw_ct w pc H (H - (m + 1)) q) 0))) 82 (m * 4 + 1) (nI (tw_lc w (pc m) (fun q => tw_ct w pc H (H - (m + 1)) q) 1))) = σ1))) ?_
    rintro _ _ ⟨rfl, rfl⟩
    show tw_P L xs _ 38 39 [.ref 81, .ref (2 * c + 18), .ref 79, .int (nI c), .int (nI H), .int (nI m), .int (nI 2)] [.int (pc m), .int (nI 2), .int (nI m), .ref (2 * c + 18), .ref 81, .int (nI 2), .int (nI m), .ref 81] (tw_upd (tw_upd σ 82 (m * 4 + 0) (nI (tw_lc w (pc m) (fun q => tw_ct w pc H (H - (m + 1)) q) 0))) 82 (m * 4 + 1) (nI (tw_lc w (pc m) (fun q => tw_ct w pc H (H - (m + 1)) q) 1))) _
    refine tw_cl1 rfl (rfl) (by decide) (tw_e_leastC (w := w) (x := pc m) (C := (fun q => tw_ct w pc H (H - (m + 1)) q)) hc (by omega) (by omega) (fun h hh => by repeat (first | exact (hI.1 _ _ (by omega)).trans (hw h hh) | rw [tw_upd_off (by omega)])) (fun q hq => by repeat (first | exact hI.2 (m + 1) (Nat.le_refl _) (by omega) q hq | rw [tw_upd_off (by omega)])) (fun q hq => tw_ct_le _ _)) ?_
    rintro _ _ ⟨rfl, rfl⟩
    show tw_P L xs _ 38 40 [.ref 81, .ref (2 * c + 18), .ref 79, .int (nI c), .int (nI H), .int (nI m), .int (nI 2)] [.int (nI (tw_lc w (pc m) (fun q => tw_ct w pc H (H - (m + 1)) q) 2)), .int (nI 2), .int (nI m), .ref 81] (tw_upd (tw_upd σ 82 (m * 4 + 0) (nI (tw_lc w (pc m) (fun q => tw_ct w pc H (H - (m + 1)) q) 0))) 82 (m * 4 + 1) (nI (tw_lc w (pc m) (fun q => tw_ct w pc H (H - (m + 1)) q) 1))) _
    refine tw_cl1 rfl (rfl) (by decide) (tw_e_setCost (by omega) (by omega)) ?_
    rintro _ _ ⟨rfl, rfl⟩
    show tw_P L xs _ 38 41 [.ref 81, .ref (2 * c + 18), .ref 79, .int (nI c), .int (nI H), .int (nI m), .int (nI 2)] [] (tw_upd (tw_upd (tw_upd σ 82 (m * 4 + 0) (nI (tw_lc w (pc m) (fun q => tw_ct w pc H (H - (m + 1)) q) 0))) 82 (m * 4 + 1) (nI (tw_lc w (pc m) (fun q => tw_ct w pc H (H - (m + 1)) q) 1))) 82 (m * 4 + 2) (nI (tw_lc w (pc m) (fun q => tw_ct w pc H (H - (m + 1)) q) 2))) _
    refine tw_sgn 4 (i1 := 27) (ls0 := [.ref 81, .ref (2 * c + 18), .ref 79, .int (nI c), .int (nI H), .int (nI m), .int (nI 2 + nI 1)]) (st0 := [.int (nI 4), .int (nI 2 + nI 1)]) (σ0 := (tw_upd (tw_upd (tw_upd σ 82 (m * 4 + 0) (nI (tw_lc w (pc m) (fun q => tw_ct w pc H (H - (m + 1)) q) 0))) 82 (m * 4 + 1) (nI (tw_lc w (pc m) (fun q => tw_ct w pc H (H - (m + 1)) q) 1))) 82 (m * 4 + 2) (nI (tw_lc w (pc m) (fun q => tw_ct w pc H (H - (m + 1)) q) 2)))) (ls1 := [.ref 81, .ref (2 * c + 18), .ref 79, .int (nI c), .int (nI H), .int (nI m), .int (nI 3)]) (st1 := [.int (nI 4), .int (nI 3)]) (σ1 := (tw_upd (tw_upd (tw_upd σ 82 (m * 4 + 0) (nI (tw_lc w (pc m) (fun q => tw_ct w pc H (H - (m + 1)) q) 0))) 82 (m * 4 + 1) (nI (tw_lc w (pc m) (fun q => tw_ct w pc H (H - (m + 1)) q) 1))) 82 (m * 4 + 2) (nI (tw_lc w (pc m) (fun q => tw_ct w pc H (H - (m + 1)) q) 2)))) rfl (by simp only [tw_nadd, tw_nmul]) (by simp only [tw_nadd, tw_nmul]) (rfl) ?_
    refine tw_biF (c := .ge) rfl (by rw [tw_cge', tw_nle (by omega) (by omega)] <;> omega) ?_
    show tw_P L xs _ 38 28 [.ref 81, .ref (2 * c + 18), .ref 79, .int (nI c), .int (nI H), .int (nI m), .int (nI 3)] [] (tw_upd (tw_upd (tw_upd σ 82 (m * 4 + 0) (nI (tw_lc w (pc m) (fun q => tw_ct w pc H (H - (m + 1)) q) 0))) 82 (m * 4 + 1) (nI (tw_lc w (pc m) (fun q => tw_ct w pc H (H - (m + 1)) q) 1))) 82 (m * 4 + 2) (nI (tw_lc w (pc m) (fun q => tw_ct w pc H (H - (m + 1)) q) 2))) _
    refine tw_sg 10 (i1 := 38) (ls1 := [.ref 81, .ref (2 * c + 18), .ref 79, .int (nI c), .int (nI H), .int (nI m), .int (nI 3)]) (st1 := [.int (nI c), .int (nI m), .ref 79, .int (nI 3), .int (nI m), .ref (2 * c + 18), .ref 81, .int (nI 3), .int (nI m), .ref 81]) (σ1 := (tw_upd (tw_upd (tw_upd σ 82 (m * 4 + 0) (nI (tw_lc w (pc m) (fun q => tw_ct w pc H (H - (m + 1)) q) 0))) 82 (m * 4 + 1) (nI (tw_lc w (pc m) (fun q => tw_ct w pc H (H - (m + 1)) q) 1))) 82 (m * 4 + 2) (nI (tw_lc w (pc m) (fun q => tw_ct w pc H (H - (m + 1)) q) 2)))) rfl ?_
    refine tw_cl1 rfl (rfl) (by decide) (tw_E_mono (tw_e_at1 (h := H) (p := fun j => σ0 80 j) (by repeat (first | exact (hI.1 79 1 (by omega)).trans h79 | rw [tw_upd_off (by omega)])) hH (fun j hj => by repeat (first | exact hI.1 80 j (by omega) | rw [tw_upd_off (by omega)])) (k := m) (c := c) (by omega) hc) (fun v σ1 h => (⟨h.1.trans (by rw [hpc _ (by omega)]), h.2⟩ : v = some (.int (pc m)) ∧ (tw_upd (tw_upd (tw_upd σ 82 (m * 4 + 0) (nI (tw_lc w (pc m) (fun q => tw_ct w pc H (H - (m + 1)) q) 0))) 82 (m * 4 + 1) (nI (tw_lc w (pc m) (fun q => tw_ct w pc H (H - (m + 1)) q) 1))) 82 (m * 4 + 2) (nI (tw_lc w (pc m) (fun q => tw_ct w pc H (H - (m + 1)) q) 2))) = σ1))) ?_
    rintro _ _ ⟨rfl, rfl⟩
    show tw_P L xs _ 38 39 [.ref 81, .ref (2 * c + 18), .ref 79, .int (nI c), .int (nI H), .int (nI m), .int (nI 3)] [.int (pc m), .int (nI 3), .int (nI m), .ref (2 * c + 18), .ref 81, .int (nI 3), .int (nI m), .ref 81] (tw_upd (tw_upd (tw_upd σ 82 (m * 4 + 0) (nI (tw_lc w (pc m) (fun q => tw_ct w pc H (H - (m + 1)) q) 0))) 82 (m * 4 + 1) (nI (tw_lc w (pc m) (fun q => tw_ct w pc H (H - (m + 1)) q) 1))) 82 (m * 4 + 2) (nI (tw_lc w (pc m) (fun q => tw_ct w pc H (H - (m + 1)) q) 2))) _
    refine tw_cl1 rfl (rfl) (by decide) (tw_e_leastC (w := w) (x := pc m) (C := (fun q => tw_ct w pc H (H - (m + 1)) q)) hc (by omega) (by omega) (fun h hh => by repeat (first | exact (hI.1 _ _ (by omega)).trans (hw h hh) | rw [tw_upd_off (by omega)])) (fun q hq => by repeat (first | exact hI.2 (m + 1) (Nat.le_refl _) (by omega) q hq | rw [tw_upd_off (by omega)])) (fun q hq => tw_ct_le _ _)) ?_
    rintro _ _ ⟨rfl, rfl⟩
    show tw_P L xs _ 38 40 [.ref 81, .ref (2 * c + 18), .ref 79, .int (nI c), .int (nI H), .int (nI m), .int (nI 3)] [.int (nI (tw_lc w (pc m) (fun q => tw_ct w pc H (H - (m + 1)) q) 3)), .int (nI 3), .int (nI m), .ref 81] (tw_upd (tw_upd (tw_upd σ 82 (m * 4 + 0) (nI (tw_lc w (pc m) (fun q => tw_ct w pc H (H - (m + 1)) q) 0))) 82 (m * 4 + 1) (nI (tw_lc w (pc m) (fun q => tw_ct w pc H (H - (m + 1)) q) 1))) 82 (m * 4 + 2) (nI (tw_lc w (pc m) (fun q => tw_ct w pc H (H - (m + 1)) q) 2))) _
    refine tw_cl1 rfl (rfl) (by decide) (tw_e_setCost (by omega) (by omega)) ?_
    rintro _ _ ⟨rfl, rfl⟩
    show tw_P L xs _ 38 41 [.ref 81, .ref (2 * c + 18), .ref 79, .int (nI c), .int (nI H), .int (nI m), .int (nI 3)] [] (tw_upd (tw_upd (tw_upd (tw_upd σ 82 (m * 4 + 0) (nI (tw_lc w (pc m) (fun q => tw_ct w pc H (H - (m + 1)) q) 0))) 82 (m * 4 + 1) (nI (tw_lc w (pc m) (fun q => tw_ct w pc H (H - (m + 1)) q) 1))) 82 (m * 4 + 2) (nI (tw_lc w (pc m) (fun q => tw_ct w pc H (H - (m + 1)) q) 2))) 82 (m * 4 + 3) (nI (tw_lc w (pc m) (fun q => tw_ct w pc H (H - (m + 1)) q) 3))) _
    refine tw_sgn 4 (i1 := 27) (ls0 := [.ref 81, .ref (2 * c + 18), .ref 79, .int (nI c), .int (nI H), .int (nI m), .int (nI 3 + nI 1)]) (st0 := [.int (nI 4), .int (nI 3 + nI 1)]) (σ0 := (tw_upd (tw_upd (tw_upd (tw_upd σ 82 (m * 4 + 0) (nI (tw_lc w (pc m) (fun q => tw_ct w pc H (H - (m + 1)) q) 0))) 82 (m * 4 + 1) (nI (tw_lc w (pc m) (fun q => tw_ct w pc H (H - (m + 1)) q) 1))) 82 (m * 4 + 2) (nI (tw_lc w (pc m) (fun q => tw_ct w pc H (H - (m + 1)) q) 2))) 82 (m * 4 + 3) (nI (tw_lc w (pc m) (fun q => tw_ct w pc H (H - (m + 1)) q) 3)))) (ls1 := [.ref 81, .ref (2 * c + 18), .ref 79, .int (nI c), .int (nI H), .int (nI m), .int (nI 4)]) (st1 := [.int (nI 4), .int (nI 4)]) (σ1 := (tw_upd (tw_upd (tw_upd (tw_upd σ 82 (m * 4 + 0) (nI (tw_lc w (pc m) (fun q => tw_ct w pc H (H - (m + 1)) q) 0))) 82 (m * 4 + 1) (nI (tw_lc w (pc m) (fun q => tw_ct w pc H (H - (m + 1)) q) 1))) 82 (m * 4 + 2) (nI (tw_lc w (pc m) (fun q => tw_ct w pc H (H - (m + 1)) q) 2))) 82 (m * 4 + 3) (nI (tw_lc w (pc m) (fun q => tw_ct w pc H (H - (m + 1)) q) 3)))) rfl (by simp only [tw_nadd, tw_nmul]) (by simp only [tw_nadd, tw_nmul]) (rfl) ?_
    refine tw_biT (c := .ge) rfl (by rw [tw_cge, tw_nle (by omega) (by omega)] <;> omega) ?_
    show tw_P L xs _ 38 43 [.ref 81, .ref (2 * c + 18), .ref 79, .int (nI c), .int (nI H), .int (nI m), .int (nI 4)] [] (tw_upd (tw_upd (tw_upd (tw_upd σ 82 (m * 4 + 0) (nI (tw_lc w (pc m) (fun q => tw_ct w pc H (H - (m + 1)) q) 0))) 82 (m * 4 + 1) (nI (tw_lc w (pc m) (fun q => tw_ct w pc H (H - (m + 1)) q) 1))) 82 (m * 4 + 2) (nI (tw_lc w (pc m) (fun q => tw_ct w pc H (H - (m + 1)) q) 2))) 82 (m * 4 + 3) (nI (tw_lc w (pc m) (fun q => tw_ct w pc H (H - (m + 1)) q) 3))) _
    refine tw_sg 2 (i1 := 21) (ls1 := [.ref 81, .ref (2 * c + 18), .ref 79, .int (nI c), .int (nI H), .int (nI m + (-1)), .int (nI 4)]) (st1 := []) (σ1 := (tw_upd (tw_upd (tw_upd (tw_upd σ 82 (m * 4 + 0) (nI (tw_lc w (pc m) (fun q => tw_ct w pc H (H - (m + 1)) q) 0))) 82 (m * 4 + 1) (nI (tw_lc w (pc m) (fun q => tw_ct w pc H (H - (m + 1)) q) 1))) 82 (m * 4 + 2) (nI (tw_lc w (pc m) (fun q => tw_ct w pc H (H - (m + 1)) q) 2))) 82 (m * 4 + 3) (nI (tw_lc w (pc m) (fun q => tw_ct w pc H (H - (m + 1)) q) 3)))) rfl ?_
    exact ih _ _ (by omega) (hI.step (by omega) rfl) hQ
def tw_flS (σ0 σ : tw_Mem) (w pc : Nat → Int32) (H p0 l : Nat) : Prop := (∀ k j, ¬ (k = 83 ∧ j < H) → σ k j = σ0 k j) ∧ ∀ i, i < l → σ 83 i = nI (tw_ft w pc H p0 i)
theorem tw_flS.step {σ0 σ : tw_Mem} {w pc : Nat → Int32} {H p0 l : Nat} (h : tw_flS σ0 σ w pc H p0 l) (hl : l < H) : tw_flS σ0 (tw_upd σ 83 l (nI (tw_ft w pc H p0 l))) w pc H p0 (l + 1) := by
  refine ⟨fun k j g => ?_, fun i hi => ?_⟩
  · rw [tw_upd_off (by omega)]; exact h.1 k j g
  · by_cases z : i = l
    · rw [z, tw_upd_at]
    · rw [tw_upd_off (by omega)]; exact h.2 i (by omega)
set_option maxHeartbeats 4000000 in
set_option maxRecDepth 100000 in
theorem tw_l_follow {Q : Option Value → tw_Mem → Prop} {σ0 : tw_Mem} {w pc : Nat → Int32} {H c : Nat} (hc : c < 10) (hH : H ≤ 8) (h79 : σ0 79 1 = nI H) (hw : ∀ h, h < 4 → σ0 (2 * c + 19) h = w h) (hpc : ∀ l, l < H → σ0 80 (10 * l + c) = pc l) {p0 : Nat} (hp0 : p0 < 4) (hct : ∀ l, l ≤ H → ∀ p, p < 4 → σ0 82 (l * 4 + p) = nI (tw_ct w pc H (H - l) p)) : ∀ (f l : Nat) (σ : tw_Mem) (u : Value), l + f = H → tw_flS σ0 σ w pc H p0 l → (∀ τ, tw_flS σ0 τ w pc H p0 H → Q none τ) → tw_P L xs 4 39 5 [.ref 81, .ref (2 * c + 18), .ref 79, .int (nI c), .int (nI H), .int (nI (tw_fp w pc H p0 l)), .int (nI l), u] [] σ Q := by
  intro f
  induction f with
  | zero =>
    intro l σ u hf hI hQ
    have hf : l = H := hf
    subst hf
    refine tw_sg 2 (i1 := 7) (ls1 := [.ref 81, .ref (2 * c + 18), .ref 79, .int (nI c), .int (nI l), .int (nI (tw_fp w pc l p0 l)), .int (nI l), u]) (st1 := [.int (nI l), .int (nI l)]) (σ1 := σ) rfl ?_
    refine tw_biT (c := .ge) rfl (by rw [tw_cge, tw_nle (by omega) (by omega)] <;> omega) ?_
    show tw_P L xs _ 39 30 [.ref 81, .ref (2 * c + 18), .ref 79, .int (nI c), .int (nI l), .int (nI (tw_fp w pc l p0 l)), .int (nI l), u] [] σ _
    refine tw_rv rfl ?_
    exact hQ σ hI
  | succ f ih =>
    intro l σ u hf hI hQ
    refine tw_sg 2 (i1 := 7) (ls1 := [.ref 81, .ref (2 * c + 18), .ref 79, .int (nI c), .int (nI H), .int (nI (tw_fp w pc H p0 l)), .int (nI l), u]) (st1 := [.int (nI H), .int (nI l)]) (σ1 := σ) rfl ?_
    refine tw_biF (c := .ge) rfl (by rw [tw_cge', tw_nle (by omega) (by omega)] <;> omega) ?_
    show tw_P L xs _ 39 8 [.ref 81, .ref (2 * c + 18), .ref 79, .int (nI c), .int (nI H), .int (nI (tw_fp w pc H p0 l)), .int (nI l), u] [] σ _
    refine tw_sg 7 (i1 := 15) (ls1 := [.ref 81, .ref (2 * c + 18), .ref 79, .int (nI c), .int (nI H), .int (nI (tw_fp w pc H p0 l)), .int (nI l), u]) (st1 := [.int (nI c), .int (nI l), .ref 79, .int (nI (tw_fp w pc H p0 l)), .int (nI l), .ref (2 * c + 18), .ref 81]) (σ1 := σ) rfl ?_
    refine tw_cl1 rfl (rfl) (by decide) (tw_E_mono (tw_e_at1 (h := H) (p := fun j => σ0 80 j) (by repeat (first | exact (hI.1 79 1 (by omega)).trans h79 | rw [tw_upd_off (by omega)])) hH (fun j hj => by repeat (first | exact hI.1 80 j (by omega) | rw [tw_upd_off (by omega)])) (k := l) (c := c) (by omega) hc) (fun v σ1 h => (⟨h.1.trans (by rw [hpc _ (by omega)]), h.2⟩ : v = some (.int (pc l)) ∧ σ = σ1))) ?_
    rintro _ _ ⟨rfl, rfl⟩
    show tw_P L xs _ 39 16 [.ref 81, .ref (2 * c + 18), .ref 79, .int (nI c), .int (nI H), .int (nI (tw_fp w pc H p0 l)), .int (nI l), u] [.int (pc l), .int (nI (tw_fp w pc H p0 l)), .int (nI l), .ref (2 * c + 18), .ref 81] σ _
    refine tw_cl1 rfl (rfl) (by decide) (tw_e_best (w := w) (x := pc l) (C := (fun q => tw_ct w pc H (H - (l + 1)) q)) hc (by omega) (tw_fp_lt hp0 l) (fun h hh => (hI.1 _ _ (by omega)).trans (hw h hh)) (fun q hq => (hI.1 82 _ (by omega)).trans (hct (l + 1) (by omega) q hq)) (fun q hq => tw_ct_le _ _) ((hI.1 82 _ (by omega)).trans ((hct l (by omega) _ (tw_fp_lt hp0 l)).trans (by rw [tw_ct_ln (by omega)])))) ?_
    rintro _ _ ⟨rfl, rfl⟩
    show tw_P L xs _ 39 17 [.ref 81, .ref (2 * c + 18), .ref 79, .int (nI c), .int (nI H), .int (nI (tw_fp w pc H p0 l)), .int (nI l), u] [.int (nI (tw_ft w pc H p0 l))] σ _
    refine tw_sg 5 (i1 := 22) (ls1 := [.ref 81, .ref (2 * c + 18), .ref 79, .int (nI c), .int (nI H), .int (nI (tw_fp w pc H p0 l)), .int (nI l), .int (nI (tw_ft w pc H p0 l))]) (st1 := [.int (nI (tw_ft w pc H p0 l)), .int (nI l), .ref 83]) (σ1 := σ) rfl ?_
    refine tw_as (k := 83) (j := l) (len := 8) rfl rfl rfl (rfl) (by omega) (by decide) ?_
    refine tw_sg 2 (i1 := 25) (ls1 := [.ref 81, .ref (2 * c + 18), .ref 79, .int (nI c), .int (nI H), .int (nI (tw_fp w pc H p0 l)), .int (nI l), .int (nI (tw_ft w pc H p0 l))]) (st1 := [.int (nI (tw_ft w pc H p0 l)), .int (nI (tw_fp w pc H p0 l))]) (σ1 := (tw_upd σ 83 l (nI (tw_ft w pc H p0 l)))) rfl ?_
    refine tw_cl1 rfl (rfl) (by decide) (tw_e_twistOf (t := tw_ft w pc H p0 l) (by have := @tw_ft_le w pc H p0 l; omega)) ?_
    rintro _ _ ⟨rfl, rfl⟩
    show tw_P L xs _ 39 26 [.ref 81, .ref (2 * c + 18), .ref 79, .int (nI c), .int (nI H), .int (nI (tw_fp w pc H p0 l)), .int (nI l), .int (nI (tw_ft w pc H p0 l))] [.int (tw_gI (tw_ft w pc H p0 l)), .int (nI (tw_fp w pc H p0 l))] (tw_upd σ 83 l (nI (tw_ft w pc H p0 l))) _
    refine tw_cl1 rfl (rfl) (by decide) (tw_E_mono tw_e_behind (fun v σ1 h => (⟨h.1.trans (by rw [tw_fm_pl _ (tw_fp_lt hp0 l) _ (by have := @tw_ft_le w pc H p0 l; omega)]; rfl), h.2⟩ : v = some (.int (nI (tw_fp w pc H p0 (l + 1)))) ∧ (tw_upd σ 83 l (nI (tw_ft w pc H p0 l))) = σ1))) ?_
    rintro _ _ ⟨rfl, rfl⟩
    show tw_P L xs _ 39 27 [.ref 81, .ref (2 * c + 18), .ref 79, .int (nI c), .int (nI H), .int (nI (tw_fp w pc H p0 l)), .int (nI l), .int (nI (tw_ft w pc H p0 l))] [.int (nI (tw_fp w pc H p0 (l + 1)))] (tw_upd σ 83 l (nI (tw_ft w pc H p0 l))) _
    refine tw_sgn 3 (i1 := 5) (ls0 := [.ref 81, .ref (2 * c + 18), .ref 79, .int (nI c), .int (nI H), .int (nI (tw_fp w pc H p0 (l + 1))), .int (nI l + nI 1), .int (nI (tw_ft w pc H p0 l))]) (st0 := []) (σ0 := (tw_upd σ 83 l (nI (tw_ft w pc H p0 l)))) (ls1 := [.ref 81, .ref (2 * c + 18), .ref 79, .int (nI c), .int (nI H), .int (nI (tw_fp w pc H p0 (l + 1))), .int (nI (l + 1)), .int (nI (tw_ft w pc H p0 l))]) (st1 := []) (σ1 := (tw_upd σ 83 l (nI (tw_ft w pc H p0 l)))) rfl (by simp only [tw_nadd, tw_nmul]) (rfl) (rfl) ?_
    exact ih (l + 1) _ _ (by omega) (hI.step (by omega)) hQ
set_option maxHeartbeats 4000000 in
set_option maxRecDepth 100000 in
theorem tw_e_follow {w pc : Nat → Int32} {H : Nat} (hc : c < 10) (hH : H ≤ 8) (h79 : σ 79 1 = nI H) (hw : ∀ h, h < 4 → σ (2 * c + 19) h = w h) (hpc : ∀ l, l < H → σ 80 (10 * l + c) = pc l) {p0 : Nat} (hp0 : p0 < 4) (hct : ∀ l, l ≤ H → ∀ p, p < 4 → σ 82 (l * 4 + p) = nI (tw_ct w pc H (H - l) p)) (hp2 : σ (2 * c + 18) 2 = nI p0) : tw_E L xs 4 39 [.ref 81, .ref (2 * c + 18), .ref 79, .int (nI c), .int (nI H)] σ (fun v τ => v = none ∧ tw_flS σ τ w pc H p0 H) := by
  show tw_P L xs _ 39 0 [.ref 81, .ref (2 * c + 18), .ref 79, .int (nI c), .int (nI H), tw_U, tw_U, tw_U] [] σ _
  refine tw_sg 1 (i1 := 1) (ls1 := [.ref 81, .ref (2 * c + 18), .ref 79, .int (nI c), .int (nI H), tw_U, tw_U, tw_U]) (st1 := [.ref (2 * c + 18)]) (σ1 := σ) rfl ?_
  refine tw_cl0 3 rfl (tw_inv_ok (y := 5) (b := 0) (st := [.ref (2 * c + 18)]) (k := (2 * c + 18)) (r := []) rfl rfl (tw_cdO hc)) (by decide) ?_
  show tw_P L xs _ 5 0 [.ref (2 * c + 18)] [] σ _
  refine tw_sg 1 (i1 := 1) (ls1 := [.ref (2 * c + 18)]) (st1 := [.ref (2 * c + 18)]) (σ1 := σ) rfl ?_
  refine tw_gf rfl (tw_cdO hc) (tw_cdB hc (by decide)) (v := .int (σ (2 * c + 18) 2)) (tw_cdV2 hc) ?_
  rw [hp2]
  refine tw_ri rfl (rfl) ?_
  show tw_P L xs _ 39 2 [.ref 81, .ref (2 * c + 18), .ref 79, .int (nI c), .int (nI H), tw_U, tw_U, tw_U] [.int (nI p0)] σ _
  refine tw_sg 3 (i1 := 5) (ls1 := [.ref 81, .ref (2 * c + 18), .ref 79, .int (nI c), .int (nI H), .int (nI p0), .int (nI 0), tw_U]) (st1 := []) (σ1 := σ) rfl ?_
  exact tw_l_follow (p0 := p0) hc hH h79 hw hpc hp0 hct H 0 σ _ (by omega) ⟨fun _ _ _ => rfl, fun i hi => by omega⟩ (fun τ h => ⟨rfl, h⟩)
set_option maxHeartbeats 4000000 in
set_option maxRecDepth 100000 in
theorem tw_e_plan0 {w pc : Nat → Int32} {H : Nat} (hc : c < 10) (hH : H ≤ 8) (h79 : σ 79 1 = nI H) (hw : ∀ h, h < 4 → σ (2 * c + 19) h = w h) (hpc : ∀ l, l < H → σ 80 (10 * l + c) = pc l) {p0 : Nat} (hp0 : p0 < 4) (hp2 : σ (2 * c + 18) 2 = nI p0) (hlo : tw_ct w pc H H p0 = 1000) : tw_E L xs 5 38 [.ref 81, .ref (2 * c + 18), .ref 79, .int (nI c)] σ (fun v τ => v = some (.int (-5)) ∧ ∀ k j, ¬ k = 82 → τ k j = σ k j) := by
  have hle := @tw_ct_le w pc H H p0
  have hlt : ¬ nI (tw_ct w pc H H p0) < nI 1000 := by rw [tw_nlt (by omega) (by omega)]; omega
  show tw_P L xs _ 38 0 [.ref 81, .ref (2 * c + 18), .ref 79, .int (nI c), tw_U, tw_U, tw_U] [] σ _
  refine tw_sg 2 (i1 := 2) (ls1 := [.ref 81, .ref (2 * c + 18), .ref 79, .int (nI c), tw_U, tw_U, tw_U]) (st1 := [.ref 79, .int (nI 8)]) (σ1 := σ) rfl ?_
  refine tw_cl0 4 rfl (rfl) (by decide) ?_
  show tw_P L xs _ 114 0 [.ref 79] [] σ _
  refine tw_sgn 2 (i1 := 2) (ls0 := [.ref 79]) (st0 := [.int (σ 79 1)]) (σ0 := σ) (ls1 := [.ref 79]) (st1 := [.int (nI H)]) (σ1 := σ) rfl (rfl) (by simp only [h79, tw_nadd, tw_nmul]) (rfl) ?_
  refine tw_ri rfl (rfl) ?_
  show tw_P L xs _ 38 3 [.ref 81, .ref (2 * c + 18), .ref 79, .int (nI c), tw_U, tw_U, tw_U] [.int (nI H), .int (nI 8)] σ _
  refine tw_cl1 rfl (rfl) (by decide) (tw_E_mono (tw_e_minN (a := 8) (b := H) (by omega) (by omega)) (fun v σ1 h => (⟨h.1.trans (by rw [show min 8 H = H by omega]), h.2⟩ : v = some (.int (nI H)) ∧ σ = σ1))) ?_
  rintro _ _ ⟨rfl, rfl⟩
  show tw_P L xs _ 38 4 [.ref 81, .ref (2 * c + 18), .ref 79, .int (nI c), tw_U, tw_U, tw_U] [.int (nI H)] σ _
  refine tw_sg 5 (i1 := 9) (ls1 := [.ref 81, .ref (2 * c + 18), .ref 79, .int (nI c), .int (nI H), .int (nI 0), tw_U]) (st1 := [.int (nI 4), .int (nI 0)]) (σ1 := σ) rfl ?_
  refine tw_biF (c := .ge) rfl (by rw [tw_cge', tw_nle (by omega) (by omega)] <;> omega) ?_
  show tw_P L xs _ 38 10 [.ref 81, .ref (2 * c + 18), .ref 79, .int (nI c), .int (nI H), .int (nI 0), tw_U] [] σ _
  refine tw_sg 4 (i1 := 14) (ls1 := [.ref 81, .ref (2 * c + 18), .ref 79, .int (nI c), .int (nI H), .int (nI 0), tw_U]) (st1 := [.int (nI 0), .int (nI 0), .int (nI H), .ref 81]) (σ1 := σ) rfl ?_
  refine tw_cl1 rfl (rfl) (by decide) (tw_e_setCost (by omega) (by omega)) ?_
  rintro _ _ ⟨rfl, rfl⟩
  show tw_P L xs _ 38 15 [.ref 81, .ref (2 * c + 18), .ref 79, .int (nI c), .int (nI H), .int (nI 0), tw_U] [] (tw_upd σ 82 (H * 4 + 0) (nI 0)) _
  refine tw_sgn 4 (i1 := 9) (ls0 := [.ref 81, .ref (2 * c + 18), .ref 79, .int (nI c), .int (nI H), .int (nI 0 + nI 1), tw_U]) (st0 := [.int (nI 4), .int (nI 0 + nI 1)]) (σ0 := (tw_upd σ 82 (H * 4 + 0) (nI 0))) (ls1 := [.ref 81, .ref (2 * c + 18), .ref 79, .int (nI c), .int (nI H), .int (nI 1), tw_U]) (st1 := [.int (nI 4), .int (nI 1)]) (σ1 := (tw_upd σ 82 (H * 4 + 0) (nI 0))) rfl (by simp only [tw_nadd, tw_nmul]) (by simp only [tw_nadd, tw_nmul]) (rfl) ?_
  refine tw_biF (c := .ge) rfl (by rw [tw_cge', tw_nle (by omega) (by omega)] <;> omega) ?_
  show tw_P L xs _ 38 10 [.ref 81, .ref (2 * c + 18), .ref 79, .int (nI c), .int (nI H), .int (nI 1), tw_U] [] (tw_upd σ 82 (H * 4 + 0) (nI 0)) _
  refine tw_sg 4 (i1 := 14) (ls1 := [.ref 81, .ref (2 * c + 18), .ref 79, .int (nI c), .int (nI H), .int (nI 1), tw_U]) (st1 := [.int (nI 0), .int (nI 1), .int (nI H), .ref 81]) (σ1 := (tw_upd σ 82 (H * 4 + 0) (nI 0))) rfl ?_
  refine tw_cl1 rfl (rfl) (by decide) (tw_e_setCost (by omega) (by omega)) ?_
  rintro _ _ ⟨rfl, rfl⟩
  show tw_P L xs _ 38 15 [.ref 81, .ref (2 * c + 18), .ref 79, .int (nI c), .int (nI H), .int (nI 1), tw_U] [] (tw_upd (tw_upd σ 82 (H * 4 + 0) (nI 0)) 82 (H * 4 + 1) (nI 0)) _
  refine tw_sgn 4 (i1 := 9) (ls0 := [.ref 81, .ref (2 * c + 18), .ref 79, .int (nI c), .int (nI H), .int (nI 1 + nI 1), tw_U]) (st0 := [.int (nI 4), .int (nI 1 + nI 1)]) (σ0 := (tw_upd (tw_upd σ 82 (H * 4 + 0) (nI 0)) 82 (H * 4 + 1) (nI 0))) (ls1 := [.ref 81, .ref (2 * c + 18), .ref 79, .int (nI c), .int (nI H), .int (nI 2), tw_U]) (st1 := [.int (nI 4), .int (nI 2)]) (σ1 := (tw_upd (tw_upd σ 82 (H * 4 + 0) (nI 0)) 82 (H * 4 + 1) (nI 0))) rfl (by simp only [tw_nadd, tw_nmul]) (by simp only [tw_nadd, tw_nmul]) (rfl) ?_
  refine tw_biF (c := .ge) rfl (by rw [tw_cge', tw_nle (by omega) (by omega)] <;> omega) ?_
  show tw_P L xs _ 38 10 [.ref 81, .ref (2 * c + 18), .ref 79, .int (nI c), .int (nI H), .int (nI 2), tw_U] [] (tw_upd (tw_upd σ 82 (H * 4 + 0) (nI 0)) 82 (H * 4 + 1) (nI 0)) _
  refine tw_sg 4 (i1 := 14) (ls1 := [.ref 81, .ref (2 * c + 18), .ref 79, .int (nI c), .int (nI H), .int (nI 2), tw_U]) (st1 := [.int (nI 0), .int (nI 2), .int (nI H), .ref 81]) (σ1 := (tw_upd (tw_upd σ 82 (H * 4 + 0) (nI 0)) 82 (H * 4 + 1) (nI 0))) rfl ?_
  refine tw_cl1 rfl (rfl) (by decide) (tw_e_setCost (by omega) (by omega)) ?_
  rintro _ _ ⟨rfl, rfl⟩
  show tw_P L xs _ 38 15 [.ref 81, .ref (2 * c + 18), .ref 79, .int (nI c), .int (nI H), .int (nI 2), tw_U] [] (tw_upd (tw_upd (tw_upd σ 82 (H * 4 + 0) (nI 0)) 82 (H * 4 + 1) (nI 0)) 82 (H * 4 + 2) (nI 0)) _
  refine tw_sgn 4 (i1 := 9) (ls0 := [.ref 81, .ref (2 * c + 18), .ref 79, .int (nI c), .int (nI H), .int (nI 2 + nI 1), tw_U]) (st0 := [.int (nI 4), .int (nI 2 + nI 1)]) (σ0 := (tw_upd (tw_upd (tw_upd σ 82 (H * 4 + 0) (nI 0)) 82 (H * 4 + 1) (nI 0)) 82 (H * 4 + 2) (nI 0))) (ls1 := [.ref 81, .ref (2 * c + 18), .ref 79, .int (nI c), .int (nI H), .int (nI 3), tw_U]) (st1 := [.int (nI 4), .int (nI 3)]) (σ1 := (tw_upd (tw_upd (tw_upd σ 82 (H * 4 + 0) (nI 0)) 82 (H * 4 + 1) (nI 0)) 82 (H * 4 + 2) (nI 0))) rfl (by simp only [tw_nadd, tw_nmul]) (by simp only [tw_nadd, tw_nmul]) (rfl) ?_
  refine tw_biF (c := .ge) rfl (by rw [tw_cge', tw_nle (by omega) (by omega)] <;> omega) ?_
  show tw_P L xs _ 38 10 [.ref 81, .ref (2 * c + 18), .ref 79, .int (nI c), .int (nI H), .int (nI 3), tw_U] [] (tw_upd (tw_upd (tw_upd σ 82 (H * 4 + 0) (nI 0)) 82 (H * 4 + 1) (nI 0)) 82 (H * 4 + 2) (nI 0)) _
  refine tw_sg 4 (i1 := 14) (ls1 := [.ref 81, .ref (2 * c + 18), .ref 79, .int (nI c), .int (nI H), .int (nI 3), tw_U]) (st1 := [.int (nI 0), .int (nI 3), .int (nI H), .ref 81]) (σ1 := (tw_upd (tw_upd (tw_upd σ 82 (H * 4 + 0) (nI 0)) 82 (H * 4 + 1) (nI 0)) 82 (H * 4 + 2) (nI 0))) rfl ?_
  refine tw_cl1 rfl (rfl) (by decide) (tw_e_setCost (by omega) (by omega)) ?_
  rintro _ _ ⟨rfl, rfl⟩
  show tw_P L xs _ 38 15 [.ref 81, .ref (2 * c + 18), .ref 79, .int (nI c), .int (nI H), .int (nI 3), tw_U] [] (tw_upd (tw_upd (tw_upd (tw_upd σ 82 (H * 4 + 0) (nI 0)) 82 (H * 4 + 1) (nI 0)) 82 (H * 4 + 2) (nI 0)) 82 (H * 4 + 3) (nI 0)) _
  refine tw_sgn 4 (i1 := 9) (ls0 := [.ref 81, .ref (2 * c + 18), .ref 79, .int (nI c), .int (nI H), .int (nI 3 + nI 1), tw_U]) (st0 := [.int (nI 4), .int (nI 3 + nI 1)]) (σ0 := (tw_upd (tw_upd (tw_upd (tw_upd σ 82 (H * 4 + 0) (nI 0)) 82 (H * 4 + 1) (nI 0)) 82 (H * 4 + 2) (nI 0)) 82 (H * 4 + 3) (nI 0))) (ls1 := [.ref 81, .ref (2 * c + 18), .ref 79, .int (nI c), .int (nI H), .int (nI 4), tw_U]) (st1 := [.int (nI 4), .int (nI 4)]) (σ1 := (tw_upd (tw_upd (tw_upd (tw_upd σ 82 (H * 4 + 0) (nI 0)) 82 (H * 4 + 1) (nI 0)) 82 (H * 4 + 2) (nI 0)) 82 (H * 4 + 3) (nI 0))) rfl (by simp only [tw_nadd, tw_nmul]) (by simp only [tw_nadd, tw_nmul]) (rfl) ?_
  refine tw_biT (c := .ge) rfl (by rw [tw_cge, tw_nle (by omega) (by omega)] <;> omega) ?_
  show tw_P L xs _ 38 17 [.ref 81, .ref (2 * c + 18), .ref 79, .int (nI c), .int (nI H), .int (nI 4), tw_U] [] (tw_upd (tw_upd (tw_upd (tw_upd σ 82 (H * 4 + 0) (nI 0)) 82 (H * 4 + 1) (nI 0)) 82 (H * 4 + 2) (nI 0)) 82 (H * 4 + 3) (nI 0)) _
  refine tw_sgn 4 (i1 := 21) (ls0 := [.ref 81, .ref (2 * c + 18), .ref 79, .int (nI c), .int (nI H), .int (nI H - nI 1), tw_U]) (st0 := []) (σ0 := (tw_upd (tw_upd (tw_upd (tw_upd σ 82 (H * 4 + 0) (nI 0)) 82 (H * 4 + 1) (nI 0)) 82 (H * 4 + 2) (nI 0)) 82 (H * 4 + 3) (nI 0))) (ls1 := [.ref 81, .ref (2 * c + 18), .ref 79, .int (nI c), .int (nI H), .int (nI H + (-1)), tw_U]) (st1 := []) (σ1 := (tw_upd (tw_upd (tw_upd (tw_upd σ 82 (H * 4 + 0) (nI 0)) 82 (H * 4 + 1) (nI 0)) 82 (H * 4 + 2) (nI 0)) 82 (H * 4 + 3) (nI 0))) rfl (by simp only [tw_sb1, tw_nadd, tw_nmul]) (rfl) (rfl) ?_
  generalize hσ1 : (tw_upd (tw_upd (tw_upd (tw_upd σ 82 (H * 4 + 0) (nI 0)) 82 (H * 4 + 1) (nI 0)) 82 (H * 4 + 2) (nI 0)) 82 (H * 4 + 3) (nI 0)) = σ1
  have hS : tw_plS σ σ1 w pc H H := by
    refine ⟨fun k j g => by rw [← hσ1, tw_upd_off (by omega), tw_upd_off (by omega), tw_upd_off (by omega), tw_upd_off (by omega)], fun l l1 l2 p hp => ?_⟩
    have e : l = H := by omega
    rw [e, Nat.sub_self, tw_ct, ← hσ1]
    rcases (show p = 0 ∨ p = 1 ∨ p = 2 ∨ p = 3 by omega) with rfl | rfl | rfl | rfl
    · repeat (first | exact tw_upd_at | rw [tw_upd_off (by omega)])
    · repeat (first | exact tw_upd_at | rw [tw_upd_off (by omega)])
    · repeat (first | exact tw_upd_at | rw [tw_upd_off (by omega)])
    · repeat (first | exact tw_upd_at | rw [tw_upd_off (by omega)])
  refine tw_l_plan (w := w) (pc := pc) hc hH h79 hw hpc H σ1 _ (Nat.le_refl _) hS (fun τ u hI => ?_)
  show tw_P L xs _ 38 45 [.ref 81, .ref (2 * c + 18), .ref 79, .int (nI c), .int (nI H), .int (nI 0 + (-1)), u] [] τ _
  refine tw_sg 3 (i1 := 48) (ls1 := [.ref 81, .ref (2 * c + 18), .ref 79, .int (nI c), .int (nI H), .int (nI 0 + (-1)), u]) (st1 := [.ref (2 * c + 18), .int (nI 0), .ref 81]) (σ1 := τ) rfl ?_
  refine tw_cl0 4 rfl (tw_inv_ok (y := 5) (b := 0) (st := [.ref (2 * c + 18), .int (nI 0), .ref 81]) (k := (2 * c + 18)) (r := [.int (nI 0), .ref 81]) rfl rfl (tw_cdO hc)) (by decide) ?_
  show tw_P L xs _ 5 0 [.ref (2 * c + 18)] [] τ _
  refine tw_sg 1 (i1 := 1) (ls1 := [.ref (2 * c + 18)]) (st1 := [.ref (2 * c + 18)]) (σ1 := τ) rfl ?_
  refine tw_gf rfl (tw_cdO hc) (tw_cdB hc (by decide)) (v := .int (τ (2 * c + 18) 2)) (tw_cdV2 hc) ?_
  rw [((hI.1 _ _ (by omega)).trans hp2)]
  refine tw_ri rfl (rfl) ?_
  show tw_P L xs _ 38 49 [.ref 81, .ref (2 * c + 18), .ref 79, .int (nI c), .int (nI H), .int (nI 0 + (-1)), u] [.int (nI p0), .int (nI 0), .ref 81] τ _
  refine tw_cl1 rfl (rfl) (by decide) (tw_e_cost (h := 0) (by omega) hp0 (hI.2 0 (Nat.zero_le _) (Nat.zero_le _) p0 hp0)) ?_
  rintro _ _ ⟨rfl, rfl⟩
  show tw_P L xs _ 38 50 [.ref 81, .ref (2 * c + 18), .ref 79, .int (nI c), .int (nI H), .int (nI 0 + (-1)), u] [.int (nI (tw_ct w pc H H p0))] τ _
  refine tw_sg 1 (i1 := 51) (ls1 := [.ref 81, .ref (2 * c + 18), .ref 79, .int (nI c), .int (nI H), .int (nI 0 + (-1)), u]) (st1 := [.int (nI 1000), .int (nI (tw_ct w pc H H p0))]) (σ1 := τ) rfl ?_
  refine tw_biF (c := .lt) rfl (by rw [tw_clt'] <;> (exact hlt)) ?_
  show tw_P L xs _ 38 52 [.ref 81, .ref (2 * c + 18), .ref 79, .int (nI c), .int (nI H), .int (nI 0 + (-1)), u] [] τ _
  refine tw_sg 1 (i1 := 53) (ls1 := [.ref 81, .ref (2 * c + 18), .ref 79, .int (nI c), .int (nI H), .int (nI 0 + (-1)), u]) (st1 := [.int (-5)]) (σ1 := τ) rfl ?_
  refine tw_ri rfl (rfl) ?_
  exact ⟨rfl, fun k j g => hI.1 k j g⟩
set_option maxHeartbeats 4000000 in
set_option maxRecDepth 100000 in
theorem tw_e_plan1 {w pc : Nat → Int32} {H : Nat} (hc : c < 10) (hH : H ≤ 8) (h79 : σ 79 1 = nI H) (hw : ∀ h, h < 4 → σ (2 * c + 19) h = w h) (hpc : ∀ l, l < H → σ 80 (10 * l + c) = pc l) {p0 : Nat} (hp0 : p0 < 4) (hp2 : σ (2 * c + 18) 2 = nI p0) (hlo : ¬ tw_ct w pc H H p0 = 1000) : tw_E L xs 5 38 [.ref 81, .ref (2 * c + 18), .ref 79, .int (nI c)] σ (fun v τ => v = some (.int (nI (tw_ct w pc H H p0))) ∧ (∀ k j, ¬ k = 82 → ¬ k = 83 → τ k j = σ k j) ∧ ∀ l, l < H → τ 83 l = nI (tw_ft w pc H p0 l)) := by
  have hle := @tw_ct_le w pc H H p0
  have hlt : nI (tw_ct w pc H H p0) < nI 1000 := by rw [tw_nlt (by omega) (by omega)]; omega
  show tw_P L xs _ 38 0 [.ref 81, .ref (2 * c + 18), .ref 79, .int (nI c), tw_U, tw_U, tw_U] [] σ _
  refine tw_sg 2 (i1 := 2) (ls1 := [.ref 81, .ref (2 * c + 18), .ref 79, .int (nI c), tw_U, tw_U, tw_U]) (st1 := [.ref 79, .int (nI 8)]) (σ1 := σ) rfl ?_
  refine tw_cl0 4 rfl (rfl) (by decide) ?_
  show tw_P L xs _ 114 0 [.ref 79] [] σ _
  refine tw_sgn 2 (i1 := 2) (ls0 := [.ref 79]) (st0 := [.int (σ 79 1)]) (σ0 := σ) (ls1 := [.ref 79]) (st1 := [.int (nI H)]) (σ1 := σ) rfl (rfl) (by simp only [h79, tw_nadd, tw_nmul]) (rfl) ?_
  refine tw_ri rfl (rfl) ?_
  show tw_P L xs _ 38 3 [.ref 81, .ref (2 * c + 18), .ref 79, .int (nI c), tw_U, tw_U, tw_U] [.int (nI H), .int (nI 8)] σ _
  refine tw_cl1 rfl (rfl) (by decide) (tw_E_mono (tw_e_minN (a := 8) (b := H) (by omega) (by omega)) (fun v σ1 h => (⟨h.1.trans (by rw [show min 8 H = H by omega]), h.2⟩ : v = some (.int (nI H)) ∧ σ = σ1))) ?_
  rintro _ _ ⟨rfl, rfl⟩
  show tw_P L xs _ 38 4 [.ref 81, .ref (2 * c + 18), .ref 79, .int (nI c), tw_U, tw_U, tw_U] [.int (nI H)] σ _
  refine tw_sg 5 (i1 := 9) (ls1 := [.ref 81, .ref (2 * c + 18), .ref 79, .int (nI c), .int (nI H), .int (nI 0), tw_U]) (st1 := [.int (nI 4), .int (nI 0)]) (σ1 := σ) rfl ?_
  refine tw_biF (c := .ge) rfl (by rw [tw_cge', tw_nle (by omega) (by omega)] <;> omega) ?_
  show tw_P L xs _ 38 10 [.ref 81, .ref (2 * c + 18), .ref 79, .int (nI c), .int (nI H), .int (nI 0), tw_U] [] σ _
  refine tw_sg 4 (i1 := 14) (ls1 := [.ref 81, .ref (2 * c + 18), .ref 79, .int (nI c), .int (nI H), .int (nI 0), tw_U]) (st1 := [.int (nI 0), .int (nI 0), .int (nI H), .ref 81]) (σ1 := σ) rfl ?_
  refine tw_cl1 rfl (rfl) (by decide) (tw_e_setCost (by omega) (by omega)) ?_
  rintro _ _ ⟨rfl, rfl⟩
  show tw_P L xs _ 38 15 [.ref 81, .ref (2 * c + 18), .ref 79, .int (nI c), .int (nI H), .int (nI 0), tw_U] [] (tw_upd σ 82 (H * 4 + 0) (nI 0)) _
  refine tw_sgn 4 (i1 := 9) (ls0 := [.ref 81, .ref (2 * c + 18), .ref 79, .int (nI c), .int (nI H), .int (nI 0 + nI 1), tw_U]) (st0 := [.int (nI 4), .int (nI 0 + nI 1)]) (σ0 := (tw_upd σ 82 (H * 4 + 0) (nI 0))) (ls1 := [.ref 81, .ref (2 * c + 18), .ref 79, .int (nI c), .int (nI H), .int (nI 1), tw_U]) (st1 := [.int (nI 4), .int (nI 1)]) (σ1 := (tw_upd σ 82 (H * 4 + 0) (nI 0))) rfl (by simp only [tw_nadd, tw_nmul]) (by simp only [tw_nadd, tw_nmul]) (rfl) ?_
  refine tw_biF (c := .ge) rfl (by rw [tw_cge', tw_nle (by omega) (by omega)] <;> omega) ?_
  show tw_P L xs _ 38 10 [.ref 81, .ref (2 * c + 18), .ref 79, .int (nI c), .int (nI H), .int (nI 1), tw_U] [] (tw_upd σ 82 (H * 4 + 0) (nI 0)) _
  refine tw_sg 4 (i1 := 14) (ls1 := [.ref 81, .ref (2 * c + 18), .ref 79, .int (nI c), .int (nI H), .int (nI 1), tw_U]) (st1 := [.int (nI 0), .int (nI 1), .int (nI H), .ref 81]) (σ1 := (tw_upd σ 82 (H * 4 + 0) (nI 0))) rfl ?_
  refine tw_cl1 rfl (rfl) (by decide) (tw_e_setCost (by omega) (by omega)) ?_
  rintro _ _ ⟨rfl, rfl⟩
  show tw_P L xs _ 38 15 [.ref 81, .ref (2 * c + 18), .ref 79, .int (nI c), .int (nI H), .int (nI 1), tw_U] [] (tw_upd (tw_upd σ 82 (H * 4 + 0) (nI 0)) 82 (H * 4 + 1) (nI 0)) _
  refine tw_sgn 4 (i1 := 9) (ls0 := [.ref 81, .ref (2 * c + 18), .ref 79, .int (nI c), .int (nI H), .int (nI 1 + nI 1), tw_U]) (st0 := [.int (nI 4), .int (nI 1 + nI 1)]) (σ0 := (tw_upd (tw_upd σ 82 (H * 4 + 0) (nI 0)) 82 (H * 4 + 1) (nI 0))) (ls1 := [.ref 81, .ref (2 * c + 18), .ref 79, .int (nI c), .int (nI H), .int (nI 2), tw_U]) (st1 := [.int (nI 4), .int (nI 2)]) (σ1 := (tw_upd (tw_upd σ 82 (H * 4 + 0) (nI 0)) 82 (H * 4 + 1) (nI 0))) rfl (by simp only [tw_nadd, tw_nmul]) (by simp only [tw_nadd, tw_nmul]) (rfl) ?_
  refine tw_biF (c := .ge) rfl (by rw [tw_cge', tw_nle (by omega) (by omega)] <;> omega) ?_
  show tw_P L xs _ 38 10 [.ref 81, .ref (2 * c + 18), .ref 79, .int (nI c), .int (nI H), .int (nI 2), tw_U] [] (tw_upd (tw_upd σ 82 (H * 4 + 0) (nI 0)) 82 (H * 4 + 1) (nI 0)) _
  refine tw_sg 4 (i1 := 14) (ls1 := [.ref 81, .ref (2 * c + 18), .ref 79, .int (nI c), .int (nI H), .int (nI 2), tw_U]) (st1 := [.int (nI 0), .int (nI 2), .int (nI H), .ref 81]) (σ1 := (tw_upd (tw_upd σ 82 (H * 4 + 0) (nI 0)) 82 (H * 4 + 1) (nI 0))) rfl ?_
  refine tw_cl1 rfl (rfl) (by decide) (tw_e_setCost (by omega) (by omega)) ?_
  rintro _ _ ⟨rfl, rfl⟩
  show tw_P L xs _ 38 15 [.ref 81, .ref (2 * c + 18), .ref 79, .int (nI c), .int (nI H), .int (nI 2), tw_U] [] (tw_upd (tw_upd (tw_upd σ 82 (H * 4 + 0) (nI 0)) 82 (H * 4 + 1) (nI 0)) 82 (H * 4 + 2) (nI 0)) _
  refine tw_sgn 4 (i1 := 9) (ls0 := [.ref 81, .ref (2 * c + 18), .ref 79, .int (nI c), .int (nI H), .int (nI 2 + nI 1), tw_U]) (st0 := [.int (nI 4), .int (nI 2 + nI 1)]) (σ0 := (tw_upd (tw_upd (tw_upd σ 82 (H * 4 + 0) (nI 0)) 82 (H * 4 + 1) (nI 0)) 82 (H * 4 + 2) (nI 0))) (ls1 := [.ref 81, .ref (2 * c + 18), .ref 79, .int (nI c), .int (nI H), .int (nI 3), tw_U]) (st1 := [.int (nI 4), .int (nI 3)]) (σ1 := (tw_upd (tw_upd (tw_upd σ 82 (H * 4 + 0) (nI 0)) 82 (H * 4 + 1) (nI 0)) 82 (H * 4 + 2) (nI 0))) rfl (by simp only [tw_nadd, tw_nmul]) (by simp only [tw_nadd, tw_nmul]) (rfl) ?_
  refine tw_biF (c := .ge) rfl (by rw [tw_cge', tw_nle (by omega) (by omega)] <;> omega) ?_
  show tw_P L xs _ 38 10 [.ref 81, .ref (2 * c + 18), .ref 79, .int (nI c), .int (nI H), .int (nI 3), tw_U] [] (tw_upd (tw_upd (tw_upd σ 82 (H * 4 + 0) (nI 0)) 82 (H * 4 + 1) (nI 0)) 82 (H * 4 + 2) (nI 0)) _
  refine tw_sg 4 (i1 := 14) (ls1 := [.ref 81, .ref (2 * c + 18), .ref 79, .int (nI c), .int (nI H), .int (nI 3), tw_U]) (st1 := [.int (nI 0), .int (nI 3), .int (nI H), .ref 81]) (σ1 := (tw_upd (tw_upd (tw_upd σ 82 (H * 4 + 0) (nI 0)) 82 (H * 4 + 1) (nI 0)) 82 (H * 4 + 2) (nI 0))) rfl ?_
  refine tw_cl1 rfl (rfl) (by decide) (tw_e_setCost (by omega) (by omega)) ?_
  rintro _ _ ⟨rfl, rfl⟩
  show tw_P L xs _ 38 15 [.ref 81, .ref (2 * c + 18), .ref 79, .int (nI c), .int (nI H), .int (nI 3), tw_U] [] (tw_upd (tw_upd (tw_upd (tw_upd σ 82 (H * 4 + 0) (nI 0)) 82 (H * 4 + 1) (nI 0)) 82 (H * 4 + 2) (nI 0)) 82 (H * 4 + 3) (nI 0)) _
  refine tw_sgn 4 (i1 := 9) (ls0 := [.ref 81, .ref (2 * c + 18), .ref 79, .int (nI c), .int (nI H), .int (nI 3 + nI 1), tw_U]) (st0 := [.int (nI 4), .int (nI 3 + nI 1)]) (σ0 := (tw_upd (tw_upd (tw_upd (tw_upd σ 82 (H * 4 + 0) (nI 0)) 82 (H * 4 + 1) (nI 0)) 82 (H * 4 + 2) (nI 0)) 82 (H * 4 + 3) (nI 0))) (ls1 := [.ref 81, .ref (2 * c + 18), .ref 79, .int (nI c), .int (nI H), .int (nI 4), tw_U]) (st1 := [.int (nI 4), .int (nI 4)]) (σ1 := (tw_upd (tw_upd (tw_upd (tw_upd σ 82 (H * 4 + 0) (nI 0)) 82 (H * 4 + 1) (nI 0)) 82 (H * 4 + 2) (nI 0)) 82 (H * 4 + 3) (nI 0))) rfl (by simp only [tw_nadd, tw_nmul]) (by simp only [tw_nadd, tw_nmul]) (rfl) ?_
  refine tw_biT (c := .ge) rfl (by rw [tw_cge, tw_nle (by omega) (by omega)] <;> omega) ?_
  show tw_P L xs _ 38 17 [.ref 81, .ref (2 * c + 18), .ref 79, .int (nI c), .int (nI H), .int (nI 4), tw_U] [] (tw_upd (tw_upd (tw_upd (tw_upd σ 82 (H * 4 + 0) (nI 0)) 82 (H * 4 + 1) (nI 0)) 82 (H * 4 + 2) (nI 0)) 82 (H * 4 + 3) (nI 0)) _
  refine tw_sgn 4 (i1 := 21) (ls0 := [.ref 81, .ref (2 * c + 18), .ref 79, .int (nI c), .int (nI H), .int (nI H - nI 1), tw_U]) (st0 := []) (σ0 := (tw_upd (tw_upd (tw_upd (tw_upd σ 82 (H * 4 + 0) (nI 0)) 82 (H * 4 + 1) (nI 0)) 82 (H * 4 + 2) (nI 0)) 82 (H * 4 + 3) (nI 0))) (ls1 := [.ref 81, .ref (2 * c + 18), .ref 79, .int (nI c), .int (nI H), .int (nI H + (-1)), tw_U]) (st1 := []) (σ1 := (tw_upd (tw_upd (tw_upd (tw_upd σ 82 (H * 4 + 0) (nI 0)) 82 (H * 4 + 1) (nI 0)) 82 (H * 4 + 2) (nI 0)) 82 (H * 4 + 3) (nI 0))) rfl (by simp only [tw_sb1, tw_nadd, tw_nmul]) (rfl) (rfl) ?_
  generalize hσ1 : (tw_upd (tw_upd (tw_upd (tw_upd σ 82 (H * 4 + 0) (nI 0)) 82 (H * 4 + 1) (nI 0)) 82 (H * 4 + 2) (nI 0)) 82 (H * 4 + 3) (nI 0)) = σ1
  have hS : tw_plS σ σ1 w pc H H := by
    refine ⟨fun k j g => by rw [← hσ1, tw_upd_off (by omega), tw_upd_off (by omega), tw_upd_off (by omega), tw_upd_off (by omega)], fun l l1 l2 p hp => ?_⟩
    have e : l = H := by omega
    rw [e, Nat.sub_self, tw_ct, ← hσ1]
    rcases (show p = 0 ∨ p = 1 ∨ p = 2 ∨ p = 3 by omega) with rfl | rfl | rfl | rfl
    · repeat (first | exact tw_upd_at | rw [tw_upd_off (by omega)])
    · repeat (first | exact tw_upd_at | rw [tw_upd_off (by omega)])
    · repeat (first | exact tw_upd_at | rw [tw_upd_off (by omega)])
    · repeat (first | exact tw_upd_at | rw [tw_upd_off (by omega)])
  refine tw_l_plan (w := w) (pc := pc) hc hH h79 hw hpc H σ1 _ (Nat.le_refl _) hS (fun τ u hI => ?_)
  show tw_P L xs _ 38 45 [.ref 81, .ref (2 * c + 18), .ref 79, .int (nI c), .int (nI H), .int (nI 0 + (-1)), u] [] τ _
  refine tw_sg 3 (i1 := 48) (ls1 := [.ref 81, .ref (2 * c + 18), .ref 79, .int (nI c), .int (nI H), .int (nI 0 + (-1)), u]) (st1 := [.ref (2 * c + 18), .int (nI 0), .ref 81]) (σ1 := τ) rfl ?_
  refine tw_cl0 4 rfl (tw_inv_ok (y := 5) (b := 0) (st := [.ref (2 * c + 18), .int (nI 0), .ref 81]) (k := (2 * c + 18)) (r := [.int (nI 0), .ref 81]) rfl rfl (tw_cdO hc)) (by decide) ?_
  show tw_P L xs _ 5 0 [.ref (2 * c + 18)] [] τ _
  refine tw_sg 1 (i1 := 1) (ls1 := [.ref (2 * c + 18)]) (st1 := [.ref (2 * c + 18)]) (σ1 := τ) rfl ?_
  refine tw_gf rfl (tw_cdO hc) (tw_cdB hc (by decide)) (v := .int (τ (2 * c + 18) 2)) (tw_cdV2 hc) ?_
  rw [((hI.1 _ _ (by omega)).trans hp2)]
  refine tw_ri rfl (rfl) ?_
  show tw_P L xs _ 38 49 [.ref 81, .ref (2 * c + 18), .ref 79, .int (nI c), .int (nI H), .int (nI 0 + (-1)), u] [.int (nI p0), .int (nI 0), .ref 81] τ _
  refine tw_cl1 rfl (rfl) (by decide) (tw_e_cost (h := 0) (by omega) hp0 (hI.2 0 (Nat.zero_le _) (Nat.zero_le _) p0 hp0)) ?_
  rintro _ _ ⟨rfl, rfl⟩
  show tw_P L xs _ 38 50 [.ref 81, .ref (2 * c + 18), .ref 79, .int (nI c), .int (nI H), .int (nI 0 + (-1)), u] [.int (nI (tw_ct w pc H H p0))] τ _
  refine tw_sg 1 (i1 := 51) (ls1 := [.ref 81, .ref (2 * c + 18), .ref 79, .int (nI c), .int (nI H), .int (nI 0 + (-1)), u]) (st1 := [.int (nI 1000), .int (nI (tw_ct w pc H H p0))]) (σ1 := τ) rfl ?_
  refine tw_biT (c := .lt) rfl (by rw [tw_clt] <;> (exact hlt)) ?_
  show tw_P L xs _ 38 54 [.ref 81, .ref (2 * c + 18), .ref 79, .int (nI c), .int (nI H), .int (nI 0 + (-1)), u] [] τ _
  refine tw_sg 5 (i1 := 59) (ls1 := [.ref 81, .ref (2 * c + 18), .ref 79, .int (nI c), .int (nI H), .int (nI 0 + (-1)), u]) (st1 := [.int (nI H), .int (nI c), .ref 79, .ref (2 * c + 18), .ref 81]) (σ1 := τ) rfl ?_
  refine tw_cl1 rfl (rfl) (by decide) (tw_e_follow (p0 := p0) hc hH ((hI.1 79 1 (by omega)).trans h79) (fun h hh => (hI.1 _ _ (by omega)).trans (hw h hh)) (fun l hl => (hI.1 80 _ (by omega)).trans (hpc l hl)) hp0 (fun l hl p hp => hI.2 l (Nat.zero_le _) hl p hp) ((hI.1 _ _ (by omega)).trans hp2)) ?_
  rintro _ υ ⟨rfl, hF⟩
  show tw_P L xs _ 38 60 [.ref 81, .ref (2 * c + 18), .ref 79, .int (nI c), .int (nI H), .int (nI 0 + (-1)), u] [] υ _
  refine tw_sg 3 (i1 := 63) (ls1 := [.ref 81, .ref (2 * c + 18), .ref 79, .int (nI c), .int (nI H), .int (nI 0 + (-1)), u]) (st1 := [.ref (2 * c + 18), .int (nI 0), .ref 81]) (σ1 := υ) rfl ?_
  refine tw_cl0 4 rfl (tw_inv_ok (y := 5) (b := 0) (st := [.ref (2 * c + 18), .int (nI 0), .ref 81]) (k := (2 * c + 18)) (r := [.int (nI 0), .ref 81]) rfl rfl (tw_cdO hc)) (by decide) ?_
  show tw_P L xs _ 5 0 [.ref (2 * c + 18)] [] υ _
  refine tw_sg 1 (i1 := 1) (ls1 := [.ref (2 * c + 18)]) (st1 := [.ref (2 * c + 18)]) (σ1 := υ) rfl ?_
  refine tw_gf rfl (tw_cdO hc) (tw_cdB hc (by decide)) (v := .int (υ (2 * c + 18) 2)) (tw_cdV2 hc) ?_
  rw [((hF.1 _ _ (by omega)).trans ((hI.1 _ _ (by omega)).trans hp2))]
  refine tw_ri rfl (rfl) ?_
  show tw_P L xs _ 38 64 [.ref 81, .ref (2 * c + 18), .ref 79, .int (nI c), .int (nI H), .int (nI 0 + (-1)), u] [.int (nI p0), .int (nI 0), .ref 81] υ _
  refine tw_cl1 rfl (rfl) (by decide) (tw_e_cost (h := 0) (by omega) hp0 ((hF.1 82 _ (by omega)).trans (hI.2 0 (Nat.zero_le _) (Nat.zero_le _) p0 hp0))) ?_
  rintro _ _ ⟨rfl, rfl⟩
  show tw_P L xs _ 38 65 [.ref 81, .ref (2 * c + 18), .ref 79, .int (nI c), .int (nI H), .int (nI 0 + (-1)), u] [.int (nI (tw_ct w pc H H p0))] υ _
  refine tw_ri rfl (rfl) ?_
  exact ⟨rfl, fun k j g1 g2 => (hF.1 k j (fun q => g2 q.1)).trans (hI.1 k j g1), hF.2⟩
end tw_s70
