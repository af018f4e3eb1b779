/-! making objects and arrays, System.arraycopy, Object's constructor; then every instruction that is no call -/
section SY
theorem RA_eq {U : State} {ty : FieldType} {cA cB : ClassId} (h1 : va_RA U cA ty) (h2 : va_RA U cB ty) : cA = cB := by
  cases ty with
  | object C =>
    obtain ⟨_, _, _, _, _, q1⟩ := h1
    obtain ⟨_, _, _, _, _, q2⟩ := h2
    exact Option.some.inj (q1.symm.trans q2)
  | _ => exact Option.some.inj (Eq.trans (Eq.symm h1) h2)
theorem K_last {D : va_G} {cl : List vw_C} {tys : List (ClassId × FieldType)} {cA : ClassId} {ty : FieldType} {U : State} (h : va_K D cl (tys ++ [(cA, ty)]) U) : va_RA U cA ty :=
  (h.2 tys.length (cA, ty) (by rw [List.getElem?_append_right (Nat.le_refl _), Nat.sub_self]; rfl)).2
def am_plain (v : Value) : Bool := match v with
  | .int _ => true
  | .long _ => true
  | .double _ => true
  | .null => true
  | _ => false
theorem sr_self {b : Nat} {L : List Nat} : ∀ {vs : List Value}, vs.all am_plain = true → am_SR (am_VR b L) vs vs
  | [], _ => trivial
  | v :: vs, h => by
    simp only [List.all_cons, Bool.and_eq_true] at h
    refine ⟨?_, sr_self h.2⟩
    cases v with
    | int x => rfl
    | long x => rfl
    | double x => exact ⟨x, rfl, alike64_refl x⟩
    | null => rfl
    | float x => cases h.1
    | ref x => cases h.1
    | retAddr x => cases h.1
theorem nf_plain : ∀ a, a < 9 → (am_nf a).all am_plain = true := by
  intro a ha
  rcases (by omega : a = 0 ∨ a = 1 ∨ a = 2 ∨ a = 3 ∨ a = 4 ∨ a = 5 ∨ a = 6 ∨ a = 7 ∨ a = 8) with rfl | rfl | rfl | rfl | rfl | rfl | rfl | rfl | rfl <;> rfl
theorem na_ok {a n : Nat} {ty : FieldType} {L : List Nat} (h4 : a < 4) (hty : am_tys[a]? = some ty) : ∃ x, am_na a n = .inl (a, n, x) ∧ (∀ cA : ClassId, vp_cell cA (n, x) = arrV cA n (fun _ => defaultValue ty)) ∧ am_XR L x x ∧ componentBytes ty ≤ 8 := by
  rcases (by omega : a = 0 ∨ a = 1 ∨ a = 2 ∨ a = 3) with rfl | rfl | rfl | rfl <;> cases hty
  · exact ⟨.inl (fun _ => 0), rfl, fun _ => rfl, rfl, by decide⟩
  · exact ⟨.inr (.inl (fun _ => 0)), rfl, fun _ => rfl, rfl, by decide⟩
  · exact ⟨.inl (fun _ => 0), rfl, fun _ => rfl, rfl, by decide⟩
  · exact ⟨.inr (.inr (.inr (.inl (fun _ => 0)))), rfl, fun _ => rfl, ⟨_, rfl, fun _ => alike64_refl _⟩, by decide⟩
theorem nq_ok {a n : Nat} (h4 : 4 ≤ a) (h6 : a ≤ 6) : am_na a n = .inl (a, n, .inr (.inr (.inr (.inr (fun _ => none))))) := by
  rcases (by omega : a = 4 ∨ a = 5 ∨ a = 6) with rfl | rfl | rfl <;> rfl
theorem la_snoc (ws : va_W) (q : Nat) (e : va_E) : am_la (ws ++ [(q, e)]) = am_la ws ++ [q] := by simp [am_la]
theorem la_new {ws : va_W} {n q : Nat} {e : va_E} (h : ws.length = n) : (am_la (ws ++ [(q, e)]))[n]? = some q := by
  rw [la_snoc, List.getElem?_append_right (by simp [am_la, h])]
  simp [am_la, h]
variable {p : Program} {l : Launch} {e : Env} {R : Room} {s : State} {m : MethodId} {args : Array Value} {below : List Frame} {meth : Method} {c : Code} {H : Heap} {locs : List Loc} {Q : State → Prop}
variable {own : String} {cc : ByteArray} {nL : Nat} {ini : Bool} {D : va_G} {cT : List (ClassId × FieldType)} {b : Nat} {A : Nat → Prop} {L0 : List Nat} {la la' : am_L} {st st' : List Value} {M M' : am_M} {ls : Array Slot} {sr : List Value} {pc pc' : Nat} {d0 : Drawn} {kc0 ks0 : Nat}
variable {xs : Option (Nat × (Nat → Int32))} {fa fb fc w w2 : Nat} {v : Value}
theorem st_newarray {at9 : ArrayType} (C : am_Cx p l R s m args meth c own cc nL ini D cT A) (hck : am_ck1 own nL ini (.newarray at9) fa fb fc w w2 v pc = true) (hdec : decode cc pc = .ok (.newarray at9, 2)) (hs : am_step xs (.newarray at9) fa fb fc v pc la st M = some (.inl (pc', la', st', M'))) (hP : am_Pt D cT b A nL L0 s.heap la st M ls sr H locs) (hd0 : s.drawn.sameBut d0 lw_cs)
    (hk0 : kc0 ≤ M.2.1) (hs0 : ks0 ≤ M.2.2.1) (hRc : M'.2.1 - kc0 ≤ R.cells) (hRs : M'.2.2.1 - ks0 ≤ R.slots) (kk : am_KK p l e R s m args below meth c Q nL D cT b A L0 la' st' M' pc' kc0 ks0) :
    W p l e R (s.setDrawn d0) m args below meth c H locs (M.2.1 - kc0) (M.2.2.1 - ks0) Q (F0 m pc ls sr) := by
  obtain ⟨hx, hb, hml, hown, hts, hlk, hK, hZ, hA, hini, hRf, hRl, hst⟩ := C
  obtain ⟨lr, ws, hl, hT, hS', hW, hSS, hpre⟩ := hP
  obtain ⟨n, r, rfl, h⟩ := i1_inv hs
  split at h
  · cases h
  · rename_i hn
    obtain ⟨rfl, rfl, rfl, rfl⟩ := nx_inj h
    obtain ⟨r1, rfl, hS1⟩ := sr_i hS'
    simp only [am_ck1, Bool.and_eq_true, decide_eq_true_eq] at hck
    obtain ⟨⟨h4, hty⟩, hw⟩ := hck
    obtain ⟨cA0, hct⟩ := cT_at hK.2.1 hty
    have hn0 : ¬ n < 0 := fun z => hn (Or.inl z)
    have hn1 : n.toNatClampNeg ≤ 100000 := Nat.not_lt.mp fun z => hn (Or.inr z)
    have hRc1 : M.2.1 + 1 - kc0 ≤ R.cells := hRc
    have hRs1 : M.2.2.1 + n.toNatClampNeg - ks0 ≤ R.slots := hRs
    obtain ⟨x, hna, hcell, hXR, hcb⟩ := na_ok (n := n.toNatClampNeg) (L := am_la ws) h4 hty
    refine va_newa (s := s.setDrawn d0) hx hb (dr_words hts d0 _ (am_hw_in hw)) rfl hK.1 hW.1 hW.2.1 hSS hA (a0 := (n.toNatClampNeg, x)) hcell hn0 rfl (Nat.le_trans (Nat.mul_le_mul hn1 hcb) (by decide)) (by omega) (by omega) hdec (fun q cA H1 hK1 hP1 hD1 hS2 => ?_)
    have hcA : cA = cA0 := RA_eq (U := s) (K_last hK1) (hK.1.2 fa _ hct).2
    subst hcA
    have hXR2 : am_XR (am_la ws ++ [q]) x x := by
      match x, hXR with
      | .inl f, h => exact h
      | .inr (.inl f), h => exact h
      | .inr (.inr (.inr (.inl f))), h => exact h
      | .inr (.inr (.inr (.inr f))), h =>
        obtain ⟨g, h1, h2⟩ := h
        exact ⟨g, h1, fun j => (h2 j).mono (am_pre.snoc _ _)⟩
    have hW2 := hW.push (q := q) (z := n.toNatClampNeg) (x := am_na fa n.toNatClampNeg) (e := .inl (cA, n.toNatClampNeg, x)) (by rw [hna]; exact ⟨cA, _, x, rfl, hct, hXR2⟩) hP1 hD1
    have hp : am_pre (am_la ws) (am_la (ws ++ [(q, .inl (cA, n.toNatClampNeg, x))])) := by rw [la_snoc]; exact am_pre.snoc _ _
    refine W.cs (by show M.2.1 - kc0 + 1 = M.2.1 + 1 - kc0; omega) (by show M.2.2.1 - ks0 + n.toNatClampNeg = M.2.2.1 + n.toNatClampNeg - ks0; omega) (kk d0 ls _ H1 locs hd0 ⟨lr, _, hl, hT.mono fun _ _ => am_VR.mono hp, ⟨⟨q, la_new hW.2.2.1, rfl⟩, hS1.mono fun _ _ => am_VR.mono hp⟩, hW2, hS2, hpre.trans hp⟩)
theorem st_anewarray {idx : Nat} (C : am_Cx p l R s m args meth c own cc nL ini D cT A) (hck : am_ck1 own nL ini (.anewarray idx) fa fb fc w w2 v pc = true) (hdec : decode cc pc = .ok (.anewarray idx, 3)) (hs : am_step xs (.anewarray idx) fa fb fc v pc la st M = some (.inl (pc', la', st', M'))) (hP : am_Pt D cT b A nL L0 s.heap la st M ls sr H locs) (hd0 : s.drawn.sameBut d0 lw_cs)
    (hk0 : kc0 ≤ M.2.1) (hs0 : ks0 ≤ M.2.2.1) (hRc : M'.2.1 - kc0 ≤ R.cells) (hRs : M'.2.2.1 - ks0 ≤ R.slots) (kk : am_KK p l e R s m args below meth c Q nL D cT b A L0 la' st' M' pc' kc0 ks0) :
    W p l e R (s.setDrawn d0) m args below meth c H locs (M.2.1 - kc0) (M.2.2.1 - ks0) Q (F0 m pc ls sr) := by
  obtain ⟨hx, hb, hml, hown, hts, hlk, hK, hZ, hA, hini, hRf, hRl, hst⟩ := C
  obtain ⟨lr, ws, hl, hT, hS', hW, hSS, hpre⟩ := hP
  obtain ⟨n, r, rfl, h⟩ := i1_inv hs
  split at h
  · cases h
  · rename_i hn
    obtain ⟨rfl, rfl, rfl, rfl⟩ := nx_inj h
    obtain ⟨r1, rfl, hS1⟩ := sr_i hS'
    simp only [am_ck1, Bool.and_eq_true, decide_eq_true_eq] at hck
    obtain ⟨⟨h4, h6⟩, hck⟩ := hck
    have hn0 : ¬ n < 0 := fun z => hn (Or.inl z)
    have hn1 : n.toNatClampNeg ≤ 100000 := Nat.not_lt.mp fun z => hn (Or.inr z)
    have hRc1 : M.2.1 + 1 - kc0 ≤ R.cells := hRc
    have hRs1 : M.2.2.1 + n.toNatClampNeg - ks0 ≤ R.slots := hRs
    obtain ⟨C, hty, hw, hel⟩ : ∃ C, am_tys[fa]? = some (.object C) ∧ am_hw w (.classLink own idx C) = true ∧ C ∈ am_elts := by
      rcases (by omega : fa = 4 ∨ fa = 5 ∨ fa = 6) with rfl | rfl | rfl
      · exact ⟨_, rfl, hck, by decide⟩
      · exact ⟨_, rfl, hck, by decide⟩
      · exact ⟨_, rfl, hck, by decide⟩
    obtain ⟨cA0, hct⟩ := cT_at hK.2.1 hty
    refine va_newq (s := s.setDrawn d0) hx hb hown (dr_words hts d0 _ (am_hw_in hw)) (hK.2.2.1 C hel) hK.1 hW.1 hW.2.1 hSS hA hn0 rfl (by omega) (by omega) (by omega) hdec (fun q cA H1 hK1 hP1 hD1 hS2 => ?_)
    have hcA : cA = cA0 := RA_eq (U := s) (K_last hK1) (hK.1.2 fa _ hct).2
    subst hcA
    have hW2 := hW.push (q := q) (z := n.toNatClampNeg) (x := am_na fa n.toNatClampNeg) (by rw [nq_ok h4 h6]; exact ⟨cA, _, _, rfl, hct, _, rfl, fun _ => rfl⟩) hP1 hD1
    have hp : am_pre (am_la ws) (am_la (ws ++ [(q, .inl (cA, n.toNatClampNeg, .inr (.inr (.inr (.inr (fun _ => none))))))])) := by rw [la_snoc]; exact am_pre.snoc _ _
    refine W.cs (by show M.2.1 - kc0 + 1 = M.2.1 + 1 - kc0; omega) (by show M.2.2.1 - ks0 + n.toNatClampNeg = M.2.2.1 + n.toNatClampNeg - ks0; omega) (kk d0 ls _ H1 locs hd0 ⟨lr, _, hl, hT.mono fun _ _ => am_VR.mono hp, ⟨⟨q, la_new hW.2.2.1, rfl⟩, hS1.mono fun _ _ => am_VR.mono hp⟩, hW2, hS2, hpre.trans hp⟩)
theorem st_new {idx : Nat} (C : am_Cx p l R s m args meth c own cc nL ini D cT A) (hck : am_ck1 own nL ini (.new idx) fa fb fc w w2 v pc = true) (hdec : decode cc pc = .ok (.new idx, 3)) (hs : am_step xs (.new idx) fa fb fc v pc la st M = some (.inl (pc', la', st', M'))) (hP : am_Pt D cT b A nL L0 s.heap la st M ls sr H locs) (hd0 : s.drawn.sameBut d0 lw_cs)
    (hk0 : kc0 ≤ M.2.1) (hs0 : ks0 ≤ M.2.2.1) (hRc : M'.2.1 - kc0 ≤ R.cells) (hRs : M'.2.2.1 - ks0 ≤ R.slots) (kk : am_KK p l e R s m args below meth c Q nL D cT b A L0 la' st' M' pc' kc0 ks0) :
    W p l e R (s.setDrawn d0) m args below meth c H locs (M.2.1 - kc0) (M.2.2.1 - ks0) Q (F0 m pc ls sr) := by
  obtain ⟨hx, hb, hml, hown, hts, hlk, hK, hZ, hA, hini, hRf, hRl, hst⟩ := C
  obtain ⟨lr, ws, hl, hT, hS', hW, hSS, hpre⟩ := hP
  have hs : (if fa < 9 then am_nx (pc + 3) la (.ref M.1 :: st) (am_new M (am_nf fa).length (.inr (fa, am_nf fa))) else if am_wt st ≤ 8 then some (.inr (.inr (.inl fa))) else none) = some (.inl (pc', la', st', M')) := hs
  split at hs
  · rename_i h9
    obtain ⟨rfl, rfl, rfl, rfl⟩ := nx_inj hs
    cases hc : am_cls[fa]? with
    | none =>
      simp only [am_ck1, hc, if_pos h9] at hck
      cases hck
    | some cl =>
      simp only [am_ck1, hc, if_pos h9, Bool.and_eq_true] at hck
      obtain ⟨⟨hw1, hw2⟩, hw3⟩ := hck
      obtain ⟨f1, f2, f3, f4, f5⟩ := am_facts fa cl hc
      have hRc1 : M.2.1 + 1 - kc0 ≤ R.cells := hRc
      have hRs1 : M.2.2.1 + (am_nf fa).length - ks0 ≤ R.slots := hRs
      rw [f5] at hRs1
      refine va_new (s := s.setDrawn d0) (ci := fa) (fs := am_nf fa) hx hb (dr_words hts d0) f1 (am_ty fa) f2 hown (dr_words hts d0 _ (am_hw_in hw1)) (dr_words hts d0 _ (am_hw_in hw2)) (dr_words hts d0 _ (am_hw_in hw3)) hK.1 hW.1 hW.2.1 hSS hA hc f4 (by omega) (by omega) hdec (fun q H1 hP1 hD1 hS2 => ?_)
      have hW2 := hW.push (q := q) (z := (am_nf fa).length) (x := .inr (fa, am_nf fa)) ⟨_, rfl, h9, sr_self (nf_plain fa h9)⟩ hP1 hD1
      have hp : am_pre (am_la ws) (am_la (ws ++ [(q, .inr (fa, am_nf fa))])) := by rw [la_snoc]; exact am_pre.snoc _ _
      refine W.cs (by show M.2.1 - kc0 + 1 = M.2.1 + 1 - kc0; omega) (by show M.2.2.1 - ks0 + cl.2.2 = M.2.2.1 + (am_nf fa).length - ks0; omega) (kk d0 ls _ H1 locs hd0 ⟨lr, _, hl, hT.mono fun _ _ => am_VR.mono hp, ⟨⟨q, la_new hW.2.2.1, rfl⟩, hS'.mono fun _ _ => am_VR.mono hp⟩, hW2, hS2, hpre.trans hp⟩)
  · split at hs <;> cases hs
theorem inv_no {a na : Nat} {x : am_N} : am_inv a na v st M ≠ some (.inl x) := by
  unfold am_inv
  intro h
  split at h
  · split at h
    · cases h
    · split at h
      · split at h <;> cases h
      · cases h
  · cases h
theorem cp_inv {a : Nat} {o : am_O} (h : am_cp a st pc la M = some o) : ∃ n dp o1 sp o0 r e2, st = .int n :: .int dp :: .ref o1 :: .int sp :: .ref o0 :: r ∧ am_wt r ≤ 8 ∧ (if a = 4 then am_cpi (am_f M o0) (am_f M o1) sp dp n else am_cpj (am_f M o0) (am_f M o1) sp dp n) = some e2 ∧ am_nx (pc + 3) la r (am_set M o1 e2) = some o := by
  unfold am_cp at h
  split at h
  · split at h
    · cases h
    · rename_i h8
      obtain ⟨e2, h1, h2⟩ := Option.bind_eq_some_iff.mp h
      exact ⟨_, _, _, _, _, _, e2, rfl, Nat.not_lt.mp h8, h1, h2⟩
  · cases h
theorem cpi_inv {e0 e1 e2 : va_E} {sp dp n : Int32} (h : am_cpi e0 e1 sp dp n = some e2) : ∃ n0 f n1 g, e0 = .inl (0, n0, .inl f) ∧ e1 = .inl (0, n1, .inl g) ∧ (¬ sp < 0 ∧ ¬ dp < 0 ∧ ¬ n < 0 ∧ sp.toNatClampNeg + n.toNatClampNeg ≤ n0 ∧ dp.toNatClampNeg + n.toNatClampNeg ≤ n1) ∧ e2 = .inl (0, n1, .inl (va_cpy f g sp.toNatClampNeg dp.toNatClampNeg n.toNatClampNeg)) := by
  unfold am_cpi at h
  split at h
  · split at h
    · rename_i h1; obtain ⟨rfl, rfl, h2⟩ := h1; cases h; exact ⟨_, _, _, _, rfl, rfl, h2, rfl⟩
    · cases h
  · cases h
theorem cpj_inv {e0 e1 e2 : va_E} {sp dp n : Int32} (h : am_cpj e0 e1 sp dp n = some e2) : ∃ n0 f n1 g, e0 = .inl (1, n0, .inr (.inl f)) ∧ e1 = .inl (1, n1, .inr (.inl g)) ∧ (¬ sp < 0 ∧ ¬ dp < 0 ∧ ¬ n < 0 ∧ sp.toNatClampNeg + n.toNatClampNeg ≤ n0 ∧ dp.toNatClampNeg + n.toNatClampNeg ≤ n1) ∧ e2 = .inl (1, n1, .inr (.inl (va_cpy f g sp.toNatClampNeg dp.toNatClampNeg n.toNatClampNeg))) := by
  unfold am_cpj at h
  split at h
  · split at h
    · rename_i h1; obtain ⟨rfl, rfl, h2⟩ := h1; cases h; exact ⟨_, _, _, _, rfl, rfl, h2, rfl⟩
    · cases h
  · cases h
theorem st_invokestatic {idx : Nat} (C : am_Cx p l R s m args meth c own cc nL ini D cT A) (hck : am_ck1 own nL ini (.invokestatic idx) fa fb fc w w2 v pc = true) (hdec : decode cc pc = .ok (.invokestatic idx, 3)) (hs : am_step xs (.invokestatic idx) fa fb fc v pc la st M = some (.inl (pc', la', st', M'))) (hP : am_Pt D cT b A nL L0 s.heap la st M ls sr H locs) (hd0 : s.drawn.sameBut d0 lw_cs)
    (kk : am_KK p l e R s m args below meth c Q nL D cT b A L0 la' st' M' pc' kc0 ks0) :
    W p l e R (s.setDrawn d0) m args below meth c H locs (M.2.1 - kc0) (M.2.2.1 - ks0) Q (F0 m pc ls sr) := by
  obtain ⟨hx, hb, hml, hown, hts, hlk, hK, hZ, hA, hini, hRf, hRl, hst⟩ := C
  obtain ⟨lr, ws, hl, hT, hS', hW, hSS, hpre⟩ := hP
  have hs : (if fa = 4 ∨ fa = 5 then am_cp fa st pc la M else if fa = 0 ∨ fa = 10 then am_inv fa fc v st M else none) = some (.inl (pc', la', st', M')) := hs
  split at hs
  · rename_i h45
    obtain ⟨n, dp, o1, sp, o0, r, e2, rfl, hwt, h1, h2⟩ := cp_inv hs
    obtain ⟨rfl, rfl, rfl, rfl⟩ := nx_inj h2
    have hck2 : am_hw w (.methodLink own idx arraycopyName) = true ∧ (.native arraycopyName ∈ am_ws ∧ .static arraycopyName ∈ am_ws ∧ .initialized "java/lang/System" ∈ am_ws) := by
      rcases h45 with rfl | rfl <;> simpa [am_ck1] using hck
    obtain ⟨hw, hw1, hw2, hw3⟩ := hck2
    obtain ⟨r0, rfl, hS0⟩ := sr_i hS'
    obtain ⟨r1, rfl, hS1⟩ := sr_i hS0
    obtain ⟨q1, r2, rfl, hq1, hS2⟩ := sr_a hS1
    obtain ⟨r3, rfl, hS3⟩ := sr_i hS2
    obtain ⟨q0, r4, rfl, hq0, hS4⟩ := sr_a hS3
    obtain ⟨e0, hwe0, hE0⟩ := hW.get hq0
    obtain ⟨e1, hwe1, hE1⟩ := hW.get hq1
    have hsum := hS4.wt
    have hnf : nativeFrameWords "java/lang/System" "arraycopy" 5 = 7 := by decide +kernel
    rcases h45 with rfl | rfl
    · rw [if_pos rfl] at h1
      obtain ⟨n0, f, n1, g, he0, he1, ⟨b1, b2, b3, b4, b5⟩, rfl⟩ := cpi_inv h1
      rw [he0] at hE0
      rw [he1] at hE1
      obtain ⟨cA, ty, x, rfl, hct, hX⟩ := hE0
      obtain ⟨cB, ty', x', rfl, hct', hX'⟩ := hE1
      cases hX
      cases hX'
      have ht := cT_ty hK.2.1 hct
      have ht' := cT_ty hK.2.1 hct'
      cases ht
      cases ht'
      refine va_copyi (s := s.setDrawn d0) hx hb (hml.trans hl.1.symm) hown (dr_words hts d0 _ (am_hw_in hw)) (dr_words hts d0 _ hw1) (dr_words hts d0 _ hw2) (dr_words hts d0 _ hw3) hK.1 hW.1 hW.2.1 hSS o0 o1 0 0 hwe0 hwe1 hct hct' rfl b1 b2 b3 b4 b5 (fun _ _ => rfl) (by omega) (by rw [hsum, hnf]; omega) hdec (fun H1 locs1 hP1 hD1 hSn => ?_)
      have hW2 := hW.set (x := .inl (0, n1, .inl (va_cpy f g sp.toNatClampNeg dp.toNatClampNeg n.toNatClampNeg))) hwe1 ⟨cB, _, _, rfl, hct', rfl⟩ hP1 hD1
      refine kk d0 ls _ H1 locs1 hd0 ⟨lr, _, hl, ?_, ?_, hW2, hSn, ?_⟩
      · rw [am_la_set ws o1 q1 _ _ hwe1]; exact hT
      · rw [am_la_set ws o1 q1 _ _ hwe1]; exact hS4
      · rw [am_la_set ws o1 q1 _ _ hwe1]; exact hpre
    · rw [if_neg (by decide)] at h1
      obtain ⟨n0, f, n1, g, he0, he1, ⟨b1, b2, b3, b4, b5⟩, rfl⟩ := cpj_inv h1
      rw [he0] at hE0
      rw [he1] at hE1
      obtain ⟨cA, ty, x, rfl, hct, hX⟩ := hE0
      obtain ⟨cB, ty', x', rfl, hct', hX'⟩ := hE1
      cases hX
      cases hX'
      have ht := cT_ty hK.2.1 hct
      have ht' := cT_ty hK.2.1 hct'
      cases ht
      cases ht'
      refine va_copyl (s := s.setDrawn d0) hx hb (hml.trans hl.1.symm) hown (dr_words hts d0 _ (am_hw_in hw)) (dr_words hts d0 _ hw1) (dr_words hts d0 _ hw2) (dr_words hts d0 _ hw3) hK.1 hW.1 hW.2.1 hSS o0 o1 1 1 hwe0 hwe1 hct hct' rfl b1 b2 b3 b4 b5 (fun _ _ => rfl) (by omega) (by rw [hsum, hnf]; omega) hdec (fun H1 locs1 hP1 hD1 hSn => ?_)
      have hW2 := hW.set (x := .inl (1, n1, .inr (.inl (va_cpy f g sp.toNatClampNeg dp.toNatClampNeg n.toNatClampNeg)))) hwe1 ⟨cB, _, _, rfl, hct', rfl⟩ hP1 hD1
      refine kk d0 ls _ H1 locs1 hd0 ⟨lr, _, hl, ?_, ?_, hW2, hSn, ?_⟩
      · rw [am_la_set ws o1 q1 _ _ hwe1]; exact hT
      · rw [am_la_set ws o1 q1 _ _ hwe1]; exact hS4
      · rw [am_la_set ws o1 q1 _ _ hwe1]; exact hpre
  · split at hs
    · exact absurd hs inv_no
    · cases hs
theorem st_invokespecial {idx : Nat} (C : am_Cx p l R s m args meth c own cc nL ini D cT A) (hck : am_ck1 own nL ini (.invokespecial idx) fa fb fc w w2 v pc = true) (hdec : decode cc pc = .ok (.invokespecial idx, 3)) (hs : am_step xs (.invokespecial idx) fa fb fc v pc la st M = some (.inl (pc', la', st', M'))) (hP : am_Pt D cT b A nL L0 s.heap la st M ls sr H locs) (hd0 : s.drawn.sameBut d0 lw_cs)
    (kk : am_KK p l e R s m args below meth c Q nL D cT b A L0 la' st' M' pc' kc0 ks0) :
    W p l e R (s.setDrawn d0) m args below meth c H locs (M.2.1 - kc0) (M.2.2.1 - ks0) Q (F0 m pc ls sr) := by
  obtain ⟨hx, hb, hml, hown, hts, hlk, hK, hZ, hA, hini, hRf, hRl, hst⟩ := C
  obtain ⟨lr, ws, hl, hT, hS', hW, hSS, hpre⟩ := hP
  have hs : (if fa = 3 then am_a1 st (fun _ r => if 8 < am_wt r then none else am_nx (pc + 3) la r M) else if fa = 2 ∨ fa = 12 then am_inv fa fc v st M else none) = some (.inl (pc', la', st', M')) := hs
  split at hs
  · rename_i h3
    subst h3
    obtain ⟨o, r, rfl, h⟩ := a1_inv hs
    split at h
    · cases h
    · rename_i h8
      obtain ⟨rfl, rfl, rfl, rfl⟩ := nx_inj h
      obtain ⟨q, r1, rfl, hq, hS1⟩ := sr_a hS'
      have hck2 : am_hw w (.methodLink own idx Lib.objectInit) = true ∧ (.instanceMethod Lib.objectInit ∈ am_ws ∧ Cond.code Lib.objectInit ⟨#[0xb1]⟩ 1 none ∈ am_ws) := by
        simpa [am_ck1] using hck
      obtain ⟨hw, hw1, hw2⟩ := hck2
      have hsum := hS1.wt
      refine W.objInit (s := s.setDrawn d0) hx hb hown (dr_words hts d0 _ (am_hw_in hw)) (dr_words hts d0 _ hw1) (dr_words hts d0 _ hw2) rfl (by rw [hml]; exact hl.1) rfl hdec (by omega) (by show 2 * 0 + (r1.map fun v => v.category).sum + 12 ≤ R.locals; rw [hsum]; omega) ?_
      refine W.eq (g2 := F0 m (pc + 3) ls r1) rfl ?_
      exact kk d0 ls _ H locs hd0 ⟨lr, ws, hl, hT, hS1, hW, hSS, hpre⟩
  · split at hs
    · exact absurd hs inv_no
    · cases hs
end SY
