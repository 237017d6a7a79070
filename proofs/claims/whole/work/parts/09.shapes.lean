/-! the classes' words, types and names; the shapes of the cells (looked at by program) -/
theorem tw_cl_at {ci : Nat} (h : ci < vwCl.length) : vwCl[ci]? = some ((tw_cl ci).1, (tw_cl ci).2.1, (tw_cl ci).2.2) := by
  unfold tw_cl
  rw [List.getD_eq_getElem?_getD, List.getElem?_eq_getElem h]
  rfl
theorem tw_places (ws : List Jvm.Cond) (ps : List Nat) (hp : ws = ps.filterMap (fun i => lw_tbl[i]?)) (h : ws.all goodWord = true) : ∀ w ∈ ws, w ∈ tw_gw := by
  intro w hw
  have h1 := List.all_eq_true.mp h w hw
  rw [hp] at hw
  obtain ⟨i, -, hi⟩ := List.mem_filterMap.mp hw
  exact List.mem_filter.mpr ⟨List.mem_of_getElem? hi, h1⟩
set_option maxRecDepth 100000 in
theorem tw_in0 : ∀ w ∈ u_ws RX0 TX0 4, w ∈ tw_gw := tw_places _ [158, 160, 162, 164] (by decide +kernel) (by decide +kernel)
set_option maxRecDepth 100000 in
theorem tw_in1 : ∀ w ∈ u_ws RX1 TX1 5, w ∈ tw_gw := tw_places _ [111, 113, 115, 117, 119] (by decide +kernel) (by decide +kernel)
set_option maxRecDepth 100000 in
theorem tw_in2 : ∀ w ∈ u_ws RX2 TX2 3, w ∈ tw_gw := tw_places _ [242, 244, 246] (by decide +kernel) (by decide +kernel)
set_option maxRecDepth 100000 in
theorem tw_in3 : ∀ w ∈ u_ws RX3 TX3 6, w ∈ tw_gw := tw_places _ [135, 137, 139, 141, 143, 145] (by decide +kernel) (by decide +kernel)
set_option maxRecDepth 100000 in
theorem tw_in4 : ∀ w ∈ u_ws RX4 TX4 4, w ∈ tw_gw := tw_places _ [195, 197, 199, 201] (by decide +kernel) (by decide +kernel)
set_option maxRecDepth 100000 in
theorem tw_in5 : ∀ w ∈ u_ws RX5 TX5 2, w ∈ tw_gw := tw_places _ [257, 259] (by decide +kernel) (by decide +kernel)
set_option maxRecDepth 100000 in
theorem tw_in6 : ∀ w ∈ u_ws RX6 TX6 5, w ∈ tw_gw := tw_places _ [172, 174, 176, 178, 180] (by decide +kernel) (by decide +kernel)
set_option maxRecDepth 100000 in
theorem tw_in7 : ∀ w ∈ u_ws RX7 TX7 3, w ∈ tw_gw := tw_places _ [213, 215, 217] (by decide +kernel) (by decide +kernel)
set_option maxRecDepth 100000 in
theorem tw_in8 : ∀ w ∈ u_ws RX8 TX8 2, w ∈ tw_gw := tw_places _ [228, 230] (by decide +kernel) (by decide +kernel)
set_option maxRecDepth 100000 in
theorem tw_in9 : ∀ w ∈ u_ws RX9 TX9 2, w ∈ tw_gw := tw_places _ [86, 88] (by decide +kernel) (by decide +kernel)
set_option maxRecDepth 100000 in
theorem tw_in10 : ∀ w ∈ u_ws RX11 TX11 10, w ∈ tw_gw := tw_places _ [272, 274, 276, 278, 280, 282, 284, 286, 288, 290] (by decide +kernel) (by decide +kernel)
set_option maxRecDepth 100000 in
theorem tw_in11 : ∀ w ∈ u_ws RX12 TX12 41, w ∈ tw_gw := tw_places _ [1075, 1077, 1079, 1081, 1083, 1085, 1087, 1089, 1091, 1093, 1095, 1097, 1099, 1101, 1103, 1105, 1107, 1109, 1111, 1113, 1115, 1117, 1119, 1121, 1123, 1125, 1127, 1129, 1131, 1133, 1135, 1137, 1139, 1141, 1143, 1145, 1147, 1149, 1151, 1153, 1155] (by decide +kernel) (by decide +kernel)
theorem tw_in : ∀ ci, ci < vwCl.length → ∀ w ∈ u_ws (tw_cl ci).1 (tw_cl ci).2.1 (tw_cl ci).2.2, w ∈ tw_gw
  | 0, _ => tw_in0
  | 1, _ => tw_in1
  | 2, _ => tw_in2
  | 3, _ => tw_in3
  | 4, _ => tw_in4
  | 5, _ => tw_in5
  | 6, _ => tw_in6
  | 7, _ => tw_in7
  | 8, _ => tw_in8
  | 9, _ => tw_in9
  | 10, _ => tw_in10
  | 11, _ => tw_in11
  | n + 12, h => absurd h (by show ¬ n + 12 < 12; omega)
def tw_tyf (ci k : Nat) : Jvm.ClassFile.FieldType := (tw_ty ci k).getD .int
set_option maxRecDepth 100000 in
theorem tw_tyf_ok : ∀ ci, ci < vwCl.length → ∀ k, k < (tw_cl ci).2.2 → parseFieldDescriptor ((tw_cl ci).2.1 k).2.2.1 = some (tw_tyf ci k) := by decide +kernel
set_option maxRecDepth 100000 in
theorem tw_nm : ∀ ci, ci < vwCl.length → ∀ a, a < (tw_cl ci).2.2 → ∀ b, b < (tw_cl ci).2.2 → a ≠ b → ((tw_cl ci).2.1 a).2.1 ≠ ((tw_cl ci).2.1 b).2.1 := by decide +kernel
def tw_shI (k : Nat) : Bool := if Nat.blt (tw_sh k).1 20 then Nat.blt (tw_sh k).1 vwCl.length && Nat.beq (tw_sh k).2 (tw_cl (tw_sh k).1).2.2 &&
    (List.range (tw_sh k).2).all (fun j => (if Nat.beq (tw_kd k j).1 0 then decide (tw_tyf (tw_sh k).1 j = .int) || decide (tw_tyf (tw_sh k).1 j = .boolean) else refKind (tw_tyf (tw_sh k).1 j)))
  else Nat.ble (tw_sh k).1 24 && Nat.ble (tw_sh k).2 4000 && (if Nat.beq (tw_sh k).1 24 then (List.range (tw_sh k).2).all (fun j => Nat.beq (tw_kd k j).1 1) else decide (tw_kdL.getD k [] = []))
set_option maxRecDepth 100000 in
theorem tw_shI_all : (List.range tw_NC).all (fun i => tw_shI (i + 1)) = true := by decide +kernel
theorem tw_shI_at {k : Nat} {md : tw_Md} (hc : tw_cn md ≤ tw_NC) (h : tw_live k md = true) : tw_shI k = true := by
  simp only [tw_live, Bool.and_eq_true, Nat.ble_eq] at h
  have h0 := List.all_eq_true.mp tw_shI_all (k - 1) (List.mem_range.mpr (by omega))
  rwa [show k - 1 + 1 = k by omega] at h0
theorem tw_shI_O {k ci : Nat} {md : tw_Md} (hc : tw_cn md ≤ tw_NC) (h : tw_isO k ci md = true) (hci : ci < 20) : tw_live k md = true ∧ (tw_sh k).1 = ci ∧ ci < vwCl.length ∧ (tw_sh k).2 = (tw_cl ci).2.2 ∧ ∀ j, j < (tw_sh k).2 → ((tw_kd k j).1 = 0 ∧ (tw_tyf ci j = .int ∨ tw_tyf ci j = .boolean)) ∨ ((tw_kd k j).1 ≠ 0 ∧ refKind (tw_tyf ci j) = true) := by
  simp only [tw_isO, Bool.and_eq_true] at h
  obtain ⟨h1, h2⟩ := h
  have h3 := Nat.eq_of_beq_eq_true h2
  have h4 := tw_shI_at hc h1
  unfold tw_shI at h4
  rw [h3, if_pos (by simpa [Nat.blt_eq] using hci)] at h4
  simp only [Bool.and_eq_true, Nat.blt_eq] at h4
  obtain ⟨⟨h5, h6⟩, h7⟩ := h4
  refine ⟨h1, h3, h5, Nat.eq_of_beq_eq_true h6, fun j hj => ?_⟩
  have h8 := List.all_eq_true.mp h7 j (List.mem_range.mpr hj)
  by_cases hz : (tw_kd k j).1 = 0
  · rw [hz, if_pos (by rfl)] at h8
    simp only [Bool.or_eq_true, decide_eq_true_eq] at h8
    exact Or.inl ⟨hz, h8⟩
  · rw [if_neg (fun q => hz (Nat.eq_of_beq_eq_true q))] at h8
    exact Or.inr ⟨hz, h8⟩
theorem tw_isA_at {k tag : Nat} {md : tw_Md} {j : Int32} (h : tw_isA k tag md j = true) : tw_live k md = true ∧ (tw_sh k).1 = tag ∧ vp_in j (tw_sh k).2 := by
  simp only [tw_isA, Bool.and_eq_true, Bool.not_eq_true', decide_eq_false_iff_not, Nat.blt_eq] at h
  obtain ⟨⟨⟨h1, h2⟩, h3⟩, h4⟩ := h
  refine ⟨h1, Nat.eq_of_beq_eq_true h2, fun q => ?_⟩
  rcases q with q | q
  · exact h3 q
  · omega
/-- an array of numbers has no references -/
theorem tw_kd_A {k : Nat} {md : tw_Md} (hc : tw_cn md ≤ tw_NC) (h : tw_live k md = true) (h1 : 20 ≤ (tw_sh k).1) : (tw_sh k).2 ≤ 4000 ∧ (tw_sh k).1 ≤ 24 := by
  have h4 := tw_shI_at hc h
  unfold tw_shI at h4
  rw [if_neg (by simp [Nat.blt_eq]; omega)] at h4
  simp only [Bool.and_eq_true, Nat.ble_eq] at h4
  exact ⟨h4.1.2, h4.1.1⟩
theorem tw_val_congr {md : tw_Md} {σ σ' : tw_Mem} {k j : Nat} (h : σ' k j = σ k j) : tw_val md σ' k j = tw_val md σ k j := by
  unfold tw_val
  rw [h]
theorem tw_cellE_congr {md : tw_Md} {ad : Nat → Nat} {aC : Nat → ClassId} {σ σ' : tw_Mem} {k : Nat} (h : ∀ j, σ' k j = σ k j) : tw_cellE md ad aC σ' k = tw_cellE md ad aC σ k := by
  have h1 : ∀ j, tw_val md σ' k j = tw_val md σ k j := fun j => tw_val_congr (h j)
  unfold tw_cellE
  simp only [h, h1]
theorem tw_upd_ne {σ : tw_Mem} {k j k' : Nat} {x : Int32} (h : k' ≠ k) (j' : Nat) : tw_upd σ k j x k' j' = σ k' j' := by
  unfold tw_upd
  rw [if_neg (fun q => h q.1)]
theorem tw_okv_val {md : tw_Md} {σ : tw_Mem} {k j : Nat} : tw_okv md (tw_val md σ k j) := by
  unfold tw_val
  split
  · trivial
  · split
    · split
      · trivial
      · split <;> trivial
    · split
      · trivial
      · split
        · trivial
        · rename_i h
          exact Nat.not_lt.mp h
