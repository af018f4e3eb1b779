/-! the frame of a method: what it needs -/
section FA
theorem am_nw_warm {w : Cond} {s U : State} (hw : w ∈ am_nw) (hW : s.WarmedH U.vm) (h : va_Nw w s) : va_Nw w U := by
  have h2 := (List.mem_filter.mp hw).2
  simp only [Bool.and_eq_true] at h2
  exact va_tabs h2.1 (rfl : (s.setVm U.vm).vm = U.vm) (Cond.before_shiftedFace (State.Shifted.of_warmed hW) _ h2.2 h)
theorem am_K_warm {D : va_G} {cT : List (ClassId × FieldType)} {s U : State} (hW : s.WarmedH U.vm) (h : am_K D cT s) : am_K D cT U := by
  obtain ⟨h1, h2, h3, h4, h5, h6, h7⟩ := h
  refine ⟨h1.moved hW.alike, h2, fun C hC => va_AO.moved hW.alike (h3 C hC), fun q hq => ?_, fun w hw => am_nw_warm hw hW (h5 w hw), fun q hq => va_Nw.warmM hW (h6 q hq), fun q hq => va_Nc.moved hW.alike (h7 q hq)⟩
  obtain ⟨sa, hsa⟩ := h4 q hq
  exact ⟨sa, vk_R.warm hW hsa⟩
theorem am_K_same {D : va_G} {cT : List (ClassId × FieldType)} {s U : State} (hv : U.vm = s.vm) (h : am_K D cT s) : am_K D cT U :=
  am_K_warm (by rw [hv]; exact State.WarmedH.refl s) h
theorem am_any {D : va_G} {cT : List (ClassId × FieldType)} {s : State} {args : Array Value} (hts : ∀ w ∈ am_ws, w.before args s = true) (hK : am_K D cT s) {w : Cond} (h : w ∈ am_ws ∨ w ∈ am_nw) : w.before args s = true := by
  rcases h with h | h
  · exact hts w h
  · have h2 := (List.mem_filter.mp h).2
    simp only [Bool.and_eq_true] at h2
    exact va_Nw.use h2.1 (hK.2.2.2.2.1 w h)
theorem am_Z_moved {A : Nat → Prop} {u U : State} {H : Heap} (hvm : u.vm.Alike U.vm) (h : am_Z A u H) : am_Z A U H := ⟨h.1.moved hvm, h.2.moved hvm⟩
theorem am_Z_kept {A : Nat → Prop} {U : State} {H H1 : Heap} (h : am_Z A U H) (hq : ∀ a : Nat, a < H.size → ¬ A a → H1[a]? = H[a]?) : am_Z A U H1 := ⟨h.1.kept hq, h.2.kept hq⟩
theorem am_Z_narrow {A B : Nat → Prop} {U : State} {H : Heap} (h : am_Z A U H) (hAB : ∀ q, B q → A q) : am_Z B U H := ⟨h.1.narrow hAB, h.2.narrow hAB⟩
/-- which cells a method may change -/
def am_Ax (ws : va_W) (sz : Nat) : Nat → Prop := fun q => q ∈ am_la ws ∨ sz ≤ q
def am_Pc (D : va_G) (cT : List (ClassId × FieldType)) (b : Nat) (M : am_M) (ws : va_W) (sz : Nat) (ra : List Value) : Array Value → State → Prop :=
  va_Pc ra (fun U => U.heap.size = sz ∧ am_Wd D cT b (fun _ => True) M ws U.heap ∧ am_K D cT U ∧ am_Z (am_Ax ws sz) U U.heap)
def am_Qc (D : va_G) (cT : List (ClassId × FieldType)) (b : Nat) (M' : am_M) (ws : va_W) (sz : Nat) (r : Option Value ⊕ Nat) : Array Value → State → Outcome → State → Prop := fun _ st o t =>
  ∃ (v rv : Option Value) (ws' : va_W), o = .returned rv ∧ r = .inl v ∧ am_SR (am_VR b (am_la ws')) v.toList rv.toList ∧ am_Wd D cT b (am_Ax ws sz) M' ws' t.heap ∧ am_pre (am_la ws) (am_la ws') ∧ va_F (am_Ax ws sz) st t
def am_XC (D : va_G) (cT : List (ClassId × FieldType)) (b : Nat) (M' : am_M) (ws : va_W) (sz : Nat) (r : Option Value ⊕ Nat) : String → State → State → Prop := fun E st t =>
  ∃ (n : Nat) (ws' : va_W), r = .inr n ∧ E = am_exn n ∧ am_Wd D cT b (am_Ax ws sz) M' ws' t.heap ∧ am_pre (am_la ws) (am_la ws') ∧ va_F (am_Ax ws sz) st t
def am_rm (d mc ms : Nat) : Room := { frames := d + 6, cells := mc, slots := ms, locals := 60 * d + 300 }
def am_P (l : Launch) (D : va_G) (cT : List (ClassId × FieldType)) (n k : Nat) : Prop :=
  ∀ (d : Nat) (as : List Value) (M : am_M) (r : am_R) (ra : List Value) (b sz : Nat) (ws : va_W), am_run n d none k 0 (lv_args 0 as) [] M = some r → am_wt as ≤ am_ml k → am_SR (am_VR b (am_la ws)) as ra →
    am_MetX lw_cs l (am_mq k).1 (am_cw k :: am_ws) (am_rm d (r.2.2.1 - M.2.1) (r.2.2.2.1 - M.2.2.1)) (am_Pc D cT b M ws sz ra) (am_Qc D cT b r.2 ws sz r.1) (am_XC D cT b r.2 ws sz r.1) (r.2.2.1 - M.2.1) (r.2.2.2.1 - M.2.2.1) (am_Ax ws sz)
theorem am_Pc_blind {D : va_G} {cT : List (ClassId × FieldType)} {b : Nat} {M : am_M} {ws : va_W} {sz : Nat} {ra : List Value} : FrameBlind (am_Pc D cT b M ws sz ra) := by
  intro a U g mk h
  obtain ⟨h1, h2, h3, h4, h5⟩ := h
  have hv : (U.calling g mk a).vm = U.vm := rfl
  refine ⟨h1, h2, h3, am_K_same hv h4, ?_⟩
  exact am_Z_moved (by rw [hv]; exact (State.WarmedH.refl U).alike) h5
theorem am_at_in {k pc : Nat} {q : am_I} (h : am_at k pc = some q) : q.1 = pc ∧ ∃ B ∈ am_code k, q ∈ B := by
  unfold am_at at h
  have h1 := List.find?_some h
  have h2 := List.mem_of_find?_eq_some h
  refine ⟨by simpa using h1, ?_⟩
  rw [List.getD_eq_getElem?_getD] at h2
  cases hb : (am_code k)[pc / 32]? with
  | none => rw [hb] at h2; cases h2
  | some B => rw [hb] at h2; exact ⟨B, List.mem_of_getElem? hb, h2⟩
theorem am_at_ck {k pc : Nat} {q : am_I} (hck : am_chb k = true) (h : am_at k pc = some q) : q.1 = pc ∧ am_cki k q = true := by
  obtain ⟨h1, B, hB, hq⟩ := am_at_in h
  unfold am_chb at hck
  simp only [Bool.and_eq_true, List.all_eq_true] at hck
  exact ⟨h1, hck.1 B hB q hq⟩
theorem hd_split {own : String} {pc E : Nat} : ∀ {hs : List (Nat × Nat × Nat × Nat × Nat)} {xs : List (Nat × Nat × Nat × Nat)} {h0 : Nat × Nat × Nat × Nat × Nat}, am_ckh own hs xs = true → hs.find? (fun h => decide (h.1 ≤ pc) && decide (pc < h.2.1) && h.2.2.2.1 == E) = some h0 →
    ∃ (pre : List (Nat × Nat × Nat × Nat)) (x : Nat × Nat × Nat × Nat) (suf : List (Nat × Nat × Nat × Nat)), xs = pre ++ x :: suf ∧ x.1 ≤ pc ∧ pc < x.2.1 ∧ x.2.2.1 = h0.2.2.1 ∧ x.2.2.2 ≠ 0 ∧ Cond.classLink own x.2.2.2 (am_exn E) ∈ am_ws ∧ am_in (.castable (am_exn E) (am_exn E)) = true ∧
      ∀ z ∈ pre, ¬ (z.1 ≤ pc ∧ pc < z.2.1) ∨ (z.2.2.2 ≠ 0 ∧ ∃ E', (am_exn E, am_exn E') ∈ am_ncs ∧ Cond.classLink own z.2.2.2 (am_exn E') ∈ am_ws)
  | [], xs, h0, _, h => by simp at h
  | h :: hs, [], h0, hc, _ => by simp [am_ckh] at hc
  | h :: hs, x :: xs, h0, hc, hf => by
    simp only [am_ckh, Bool.and_eq_true, decide_eq_true_eq] at hc
    obtain ⟨⟨⟨⟨⟨e1, e2, e3, e4⟩, hl⟩, hca⟩, hall⟩, hrec⟩ := hc
    rw [List.find?_cons] at hf
    split at hf
    · rename_i hp
      cases hf
      simp only [Bool.and_eq_true, decide_eq_true_eq, beq_iff_eq] at hp
      obtain ⟨⟨p1, p2⟩, p3⟩ := hp
      exact ⟨[], x, xs, rfl, by omega, by omega, e3.symm, e4, by rw [← p3]; exact am_hw_in hl, by rw [← p3]; exact hca, fun z hz => by cases hz⟩
    · rename_i hp
      obtain ⟨pre, x', suf, r1, r2, r3, r4, r5, r6, r7, r8⟩ := hd_split hrec hf
      refine ⟨x :: pre, x', suf, by rw [r1]; rfl, r2, r3, r4, r5, r6, r7, fun z hz => ?_⟩
      rcases List.mem_cons.mp hz with rfl | hz
      · by_cases hcov : z.1 ≤ pc ∧ pc < z.2.1
        · refine Or.inr ⟨e4, h.2.2.2.1, ?_, am_hw_in hl⟩
          have hmem := List.mem_of_find?_eq_some hf
          have hE := List.find?_some hf
          simp only [Bool.and_eq_true, beq_iff_eq] at hE
          have h9 := List.all_eq_true.mp hall _ hmem
          simp only [Bool.or_eq_true, decide_eq_true_eq] at h9
          rcases h9 with h9 | h9
          · exfalso
            have : (decide (h.1 ≤ pc) && decide (pc < h.2.1) && h.2.2.2.1 == E) = true := by
              simp only [Bool.and_eq_true, decide_eq_true_eq, beq_iff_eq]
              exact ⟨⟨by omega, by omega⟩, by rw [← h9]; exact hE.2⟩
            rw [this] at hp
            cases hp
          · rw [hE.2] at h9
            exact h9
        · exact Or.inl hcov
      · exact r8 z hz
theorem hs_nil {own : String} {xs : List (Nat × Nat × Nat × Nat)} (h : am_ckh own [] xs = true) : xs = [] := by
  cases xs with
  | nil => rfl
  | cons x xs => simp [am_ckh] at h
theorem lg_len (vs : List Value) : (lg_sl vs).length = (vs.map fun v => v.category).sum := by
  induction vs with
  | nil => rfl
  | cons v t ih =>
    have h1 : (lg_sl (v :: t)).length = (if v.category = 2 then 2 else 1) + (lg_sl t).length := by
      unfold lg_sl
      rw [List.flatMap_cons, List.length_append]
      split <;> rfl
    rw [h1, ih]
    cases v <;> rfl
end FA
