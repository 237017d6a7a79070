/-! a pick over two memories -/
section tw_s45
variable {L : Nat} {xs : Nat → Int32} {σ : tw_Mem} {x y w : Int32} {n r i c k h q a b e : Nat}
/-- the class's cells of the one, the reference's of the other -/
def tw_mg (σ α : tw_Mem) : tw_Mem := fun k j => if k < 88 then σ k j else α k j
theorem tw_mg_lo {σ α : tw_Mem} {k j : Nat} (h : k < 88) : tw_mg σ α k j = σ k j := if_pos h
theorem tw_mg_hi {σ α : tw_Mem} {k j : Nat} (h : 88 ≤ k) : tw_mg σ α k j = α k j := if_neg (by omega)
/-- alike in the reference's cells -/
def tw_agM (σ α : tw_Mem) : Prop := ∀ k j, 88 ≤ k → ¬ k = 110 → σ k j = α k j
/-- alike in the class's cells -/
def tw_agC (σ α : tw_Mem) : Prop := ∀ k j, k < 88 → ¬ k = 8 → σ k j = α k j
theorem tw_wkM_ex {α : tw_Mem} {r : Nat} {T P q : Nat → Nat} : ∀ c, ∃ υ, tw_wkM α υ r T P q c
  | 0 => ⟨α, fun _ _ _ _ => rfl, fun d hd => by omega⟩
  | c + 1 => by
    obtain ⟨υ, h⟩ := tw_wkM_ex (α := α) (r := r) (T := T) (P := P) (q := q) c
    exact ⟨_, tw_wkM_step h⟩
theorem tw_wkM_uq {σ α υ ω : tw_Mem} {n r : Nat} {T P q : Nat → Nat} (h : tw_agM σ α) (h1 : tw_wkM σ υ r T P q n) (h2 : tw_wkM α ω r T P q n) : tw_agM υ ω := by
  intro k j hk hk2
  by_cases g1 : 93 ≤ k ∧ k ≤ 94 ∧ j < n
  · obtain ⟨a1, a2, -⟩ := h1.2 j g1.2.2
    obtain ⟨b1, b2, -⟩ := h2.2 j g1.2.2
    rcases (show k = 93 ∨ k = 94 by omega) with rfl | rfl
    · rw [a2, b2]
    · rw [a1, b1, h 94 j (by omega) (by omega)]
  · by_cases g2 : 95 ≤ k ∧ k ≤ 98 ∧ 10 * r ≤ j ∧ j < 10 * r + n
    · obtain ⟨d, hd⟩ : ∃ d, j = 10 * r + d := ⟨j - 10 * r, by omega⟩
      subst hd
      obtain ⟨-, -, a1, a2, a3, a4⟩ := h1.2 d (by omega)
      obtain ⟨-, -, b1, b2, b3, b4⟩ := h2.2 d (by omega)
      rcases (show k = 95 ∨ k = 96 ∨ k = 97 ∨ k = 98 by omega) with rfl | rfl | rfl | rfl
      · rw [a1, b1, h 91 _ (by omega) (by omega)]
      · rw [a2, b2, h 91 _ (by omega) (by omega)]
      · rw [a3, b3]
      · rw [a4, b4]
    · rw [h1.1 k j g1 g2, h2.1 k j g1 g2, h k j hk hk2]
theorem tw_pick_mg {α σl τ0 : tw_Mem} {n r : Nat} {T P q : Nat → Nat} (hI : tw_Inv α) (hLo : tw_iLoom α 6 0 n r) (hr : r < 50) (hT : ∀ c, c < n → T c < 4) (hs : tw_agC σl α) (wC : tw_wkC σl τ0 r T P q n) : ∃ τa υ0, tw_agM τa α ∧ tw_wkM τa υ0 r T P q n ∧ tw_Inv (tw_upd υ0 90 0 (nI (r + 1))) ∧ tw_agC (tw_upd τ0 9 3 (nI (r + 1))) (tw_upd υ0 90 0 (nI (r + 1))) := by
  obtain ⟨υ0, wM⟩ := tw_wkM_ex (α := tw_upd (tw_mg τ0 α) 9 3 (nI (r + 1))) (r := r) (T := T) (P := P) (q := q) n
  refine ⟨tw_upd (tw_mg τ0 α) 9 3 (nI (r + 1)), υ0, fun k j h1 h2 => ?_, wM, tw_Inv_pick (σa := tw_mg σl α) (τ0 := tw_mg τ0 α) hI hLo hr hT (fun k j h => ?_) ⟨fun k j h1 h2 => ?_, fun d hd => ?_⟩ (fun _ _ _ => rfl) wM, fun k j h1 h2 => ?_⟩
  · rw [tw_upd_off (by omega), tw_mg_hi h1]
  · by_cases hk : k < 88
    · rw [tw_mg_lo hk, hs k j hk h]
    · rw [tw_mg_hi (by omega)]
  · by_cases hk : k < 88
    · rw [tw_mg_lo hk, tw_mg_lo hk]; exact wC.1 k j h1 h2
    · rw [tw_mg_hi (by omega), tw_mg_hi (by omega)]
  · have hn := hLo.1.1
    obtain ⟨a1, a2, a3, a4, a5, a6⟩ := wC.2 d hd
    rw [tw_mg_lo (by omega), tw_mg_lo (by omega), tw_mg_lo (by omega), tw_mg_lo (by omega), tw_mg_lo (by omega), tw_mg_lo (by omega), tw_mg_lo (by omega), tw_mg_lo (by omega), tw_mg_lo (by omega)]
    exact ⟨a1, a2, a3, a4, a5, a6⟩
  · rw [tw_upd_off (k0 := 90) (by omega), wM.1 k j (by omega) (by omega)]
    by_cases g : k = 9 ∧ j = 3
    · obtain ⟨rfl, rfl⟩ := g
      rw [tw_upd_at, tw_upd_at]
    · rw [tw_upd_off g, tw_upd_off g, tw_mg_lo h1]
end tw_s45
