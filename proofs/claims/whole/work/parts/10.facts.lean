/-! the classes: their words, by places -/
theorem am_sub {ws : List Cond} (ps : List Nat) (hp : ws = ps.filterMap (fun i => lw_tbl[i]?)) (h : ws.all goodWord = true) : ∀ w ∈ ws, w ∈ am_ws := by
  intro w hw
  have h1 := List.all_eq_true.mp h w hw
  rw [hp] at hw
  obtain ⟨i, -, hi⟩ := List.mem_filterMap.mp hw
  exact am_ws_at hi h1
set_option maxRecDepth 100000 in
theorem cw0 : ∀ w ∈ u_ws RX0 TX0 5, w ∈ am_ws := am_sub [990, 992, 994, 996, 998] (by decide +kernel) (by decide +kernel)
set_option maxRecDepth 100000 in
theorem cw1 : ∀ w ∈ u_ws RX1 TX1 5, w ∈ am_ws := am_sub [91, 93, 95, 97, 99] (by decide +kernel) (by decide +kernel)
set_option maxRecDepth 100000 in
theorem cw2 : ∀ w ∈ u_ws RX2 TX2 2, w ∈ am_ws := am_sub [115, 117] (by decide +kernel) (by decide +kernel)
set_option maxRecDepth 100000 in
theorem cw3 : ∀ w ∈ u_ws RX3 TX3 8, w ∈ am_ws := am_sub [728, 730, 732, 734, 736, 738, 740, 742] (by decide +kernel) (by decide +kernel)
set_option maxRecDepth 100000 in
theorem cw4 : ∀ w ∈ u_ws RX4 TX4 12, w ∈ am_ws := am_sub [654, 656, 658, 660, 662, 664, 666, 668, 670, 672, 674, 676] (by decide +kernel) (by decide +kernel)
set_option maxRecDepth 100000 in
theorem cw5 : ∀ w ∈ u_ws RX5 TX5 3, w ∈ am_ws := am_sub [545, 547, 549] (by decide +kernel) (by decide +kernel)
set_option maxRecDepth 100000 in
theorem cw6 : ∀ w ∈ u_ws RX6 TX6 4, w ∈ am_ws := am_sub [139, 141, 143, 145] (by decide +kernel) (by decide +kernel)
set_option maxRecDepth 100000 in
theorem cw7 : ∀ w ∈ u_ws RX7 TX7 18, w ∈ am_ws := am_sub [166, 168, 170, 172, 174, 176, 178, 180, 182, 184, 186, 188, 190, 192, 194, 196, 198, 200] (by decide +kernel) (by decide +kernel)
set_option maxRecDepth 100000 in
theorem cw8 : ∀ w ∈ u_ws RX8 TX8 44, w ∈ am_ws := am_sub [1104, 1106, 1108, 1110, 1112, 1114, 1116, 1118, 1120, 1122, 1124, 1126, 1128, 1130, 1132, 1134, 1136, 1138, 1140, 1142, 1144, 1146, 1148, 1150, 1152, 1154, 1156, 1158, 1160, 1162, 1164, 1166, 1168, 1170, 1172, 1174, 1176, 1178, 1180, 1182, 1184, 1186, 1188, 1190] (by decide +kernel) (by decide +kernel)
def am_ty (ci : Nat) : Nat → FieldType := match ci with
  | 0 => tyX0
  | 1 => tyX1
  | 2 => tyX2
  | 3 => tyX3
  | 4 => tyX4
  | 5 => tyX5
  | 6 => tyX6
  | 7 => tyX7
  | _ => tyX8
def am_fact (ci : Nat) (q : vw_C) : Prop := (∀ w ∈ u_ws q.1 q.2.1 q.2.2, w ∈ am_ws) ∧ (∀ k, k < q.2.2 → parseFieldDescriptor (q.2.1 k).2.2.1 = some (am_ty ci k)) ∧ (∀ a, a < q.2.2 → ∀ b, b < q.2.2 → a ≠ b → (q.2.1 a).2.1 ≠ (q.2.1 b).2.1) ∧ (∀ j, j < q.2.2 → defaultValue (am_ty ci j) = vp_V (am_nf ci) j) ∧ (am_nf ci).length = q.2.2
theorem cf0 : am_fact 0 (RX0, TX0, 5) := ⟨cw0, tyX0_ok, nmX0, by decide +kernel, rfl⟩
theorem cf1 : am_fact 1 (RX1, TX1, 5) := ⟨cw1, tyX1_ok, nmX1, by decide +kernel, rfl⟩
theorem cf2 : am_fact 2 (RX2, TX2, 2) := ⟨cw2, tyX2_ok, nmX2, by decide +kernel, rfl⟩
theorem cf3 : am_fact 3 (RX3, TX3, 8) := ⟨cw3, tyX3_ok, nmX3, by decide +kernel, rfl⟩
theorem cf4 : am_fact 4 (RX4, TX4, 12) := ⟨cw4, tyX4_ok, nmX4, by decide +kernel, rfl⟩
theorem cf5 : am_fact 5 (RX5, TX5, 3) := ⟨cw5, tyX5_ok, nmX5, by decide +kernel, rfl⟩
theorem cf6 : am_fact 6 (RX6, TX6, 4) := ⟨cw6, tyX6_ok, nmX6, by decide +kernel, rfl⟩
theorem cf7 : am_fact 7 (RX7, TX7, 18) := ⟨cw7, tyX7_ok, nmX7, by decide +kernel, rfl⟩
theorem cf8 : am_fact 8 (RX8, TX8, 44) := ⟨cw8, tyX8_ok, nmX8, by decide +kernel, rfl⟩
theorem am_facts : ∀ (ci : Nat) (q : vw_C), am_cls[ci]? = some q → am_fact ci q := by
  intro ci q h
  match ci, h with
  | 0, h => cases h; exact cf0
  | 1, h => cases h; exact cf1
  | 2, h => cases h; exact cf2
  | 3, h => cases h; exact cf3
  | 4, h => cases h; exact cf4
  | 5, h => cases h; exact cf5
  | 6, h => cases h; exact cf6
  | 7, h => cases h; exact cf7
  | 8, h => cases h; exact cf8
  | k + 9, h => simp [am_cls] at h
