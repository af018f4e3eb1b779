/-! each instruction that is no call (printed by wip/whole/gen_step2.py) -/
section SX
variable {p : Program} {l : Launch} {e : Env} {R : Room} {s : State} {m : MethodId} {args : Array Value} {below : List Frame} {meth : Method} {c : Code} {H : Heap} {locs : List Loc} {Q : State → Prop}
variable {own : String} {cc : ByteArray} {nL : Nat} {ini : Bool} {D : va_G} {cT : List (ClassId × FieldType)} {b : Nat} {A : Nat → Prop} {L0 : List Nat} {la la' : am_L} {st st' : List Value} {M M' : am_M} {ls : Array Slot} {sr : List Value} {pc pc' : Nat} {d0 : Drawn} {kc0 ks0 : Nat}
variable {xs : Option (Nat × (Nat → Int32))} {fa fb fc w w2 : Nat} {v : Value}
theorem put_inv {a k c8 pc2 : Nat} {o : am_O} (h : am_put st a k c8 pc2 la M = some o) : ∃ w1 x r, st = w1 :: .ref x :: r ∧ ((am_pf (am_f M x) a k c8 w1).bind fun e => am_nx pc2 la r (am_set M x e)) = some o := by
  unfold am_put at h; split at h
  · exact ⟨_, _, _, rfl, h⟩
  · cases h
theorem aas_inv {pc2 : Nat} {o : am_O} (h : am_aas st pc2 la M = some o) : ∃ x i y r, st = .ref x :: .int i :: .ref y :: r ∧ ((am_wa (am_f M y) i x (am_f M x)).bind fun e => am_nx pc2 la r (am_set M y e)) = some o := by
  unfold am_aas at h; split at h
  · exact ⟨_, _, _, _, rfl, h⟩
  · cases h
theorem aln_inv {pc2 : Nat} {o : am_O} (h : am_aln xs st pc2 la M = some o) : (∃ x r, st = .ref x :: r ∧ ((am_len (am_f M x)).bind fun n => am_nx pc2 la (.int n :: r) M) = some o) ∨ ∃ x r, st = .retAddr x :: r ∧ (xs.bind fun q => am_nx pc2 la (.int (Int32.ofNat q.1) :: r) M) = some o := by
  unfold am_aln at h; split at h
  · exact Or.inl ⟨_, _, rfl, h⟩
  · exact Or.inr ⟨_, _, rfl, h⟩
  · cases h
theorem ial_inv {pc2 : Nat} {o : am_O} (h : am_ial xs st pc2 la M = some o) : (∃ i x r, st = .int i :: .ref x :: r ∧ ((am_ai (am_f M x) 0 i).bind fun n => am_nx pc2 la (.int n :: r) M) = some o) ∨ ∃ i x r, st = .int i :: .retAddr x :: r ∧ (xs.bind fun q => if i < 0 ∨ q.1 ≤ i.toNatClampNeg then none else am_nx pc2 la (.int (q.2 i.toNatClampNeg) :: r) M) = some o := by
  unfold am_ial at h; split at h
  · exact Or.inl ⟨_, _, _, rfl, h⟩
  · exact Or.inr ⟨_, _, _, rfl, h⟩
  · cases h
def am_KK (p : Program) (l : Launch) (e : Env) (R : Room) (s : State) (m : MethodId) (args : Array Value) (below : List Frame) (meth : Method) (c : Code) (Q : State → Prop) (nL : Nat) (D : va_G) (cT : List (ClassId × FieldType)) (b : Nat) (A : Nat → Prop) (L0 : List Nat) (la' : am_L) (st' : List Value) (M' : am_M) (pc' kc0 ks0 : Nat) : Prop :=
  ∀ (d' : Drawn) (ls' : Array Slot) (sr' : List Value) (H' : Heap) (locs' : List Loc), s.drawn.sameBut d' lw_cs → am_Pt D cT b A nL L0 s.heap la' st' M' ls' sr' H' locs' → W p l e R (s.setDrawn d') m args below meth c H' locs' (M'.2.1 - kc0) (M'.2.2.1 - ks0) Q (F0 m pc' ls' sr')

theorem st_iconst {n : Int} (C : am_Cx p l R s m args meth c own cc nL ini D cT A) (hdec : decode cc pc = .ok (.iconst n, 1)) (hs : am_step xs (.iconst n) fa fb fc v pc la st M = some (.inl (pc', la', st', M'))) (hP : am_Pt D cT b A nL L0 s.heap la st M ls sr H locs) (hd0 : s.drawn.sameBut d0 lw_cs) (kk : am_KK p l e R s m args below meth c Q nL D cT b A L0 la' st' M' pc' kc0 ks0) :
    W p l e R (s.setDrawn d0) m args below meth c H locs (M.2.1 - kc0) (M.2.2.1 - ks0) Q (F0 m pc ls sr) := by
  obtain ⟨hx, hb, hml, hown, hts, hlk, hK, hZ, hA, hini, hRf, hRl, hst⟩ := C
  obtain ⟨lr, ws, hl, hT, hS', hW, hSS, hpre⟩ := hP
  obtain ⟨rfl, rfl, rfl, rfl⟩ := nx_inj hs
  refine lv_iconst (v := Int32.ofInt n) hx hb hdec rfl ?_
  exact kk d0 ls _ H locs hd0 ⟨lr, ws, hl, hT, ⟨rfl, hS'⟩, hW, hSS, hpre⟩

theorem st_bipush {n : Int} (C : am_Cx p l R s m args meth c own cc nL ini D cT A) (hdec : decode cc pc = .ok (.bipush n, 2)) (hs : am_step xs (.bipush n) fa fb fc v pc la st M = some (.inl (pc', la', st', M'))) (hP : am_Pt D cT b A nL L0 s.heap la st M ls sr H locs) (hd0 : s.drawn.sameBut d0 lw_cs) (kk : am_KK p l e R s m args below meth c Q nL D cT b A L0 la' st' M' pc' kc0 ks0) :
    W p l e R (s.setDrawn d0) m args below meth c H locs (M.2.1 - kc0) (M.2.2.1 - ks0) Q (F0 m pc ls sr) := by
  obtain ⟨hx, hb, hml, hown, hts, hlk, hK, hZ, hA, hini, hRf, hRl, hst⟩ := C
  obtain ⟨lr, ws, hl, hT, hS', hW, hSS, hpre⟩ := hP
  obtain ⟨rfl, rfl, rfl, rfl⟩ := nx_inj hs
  refine lv_bipush (v := (Int8.ofInt n).toInt32) hx hb hdec rfl ?_
  exact kk d0 ls _ H locs hd0 ⟨lr, ws, hl, hT, ⟨rfl, hS'⟩, hW, hSS, hpre⟩

theorem st_sipush {n : Int} (C : am_Cx p l R s m args meth c own cc nL ini D cT A) (hdec : decode cc pc = .ok (.sipush n, 3)) (hs : am_step xs (.sipush n) fa fb fc v pc la st M = some (.inl (pc', la', st', M'))) (hP : am_Pt D cT b A nL L0 s.heap la st M ls sr H locs) (hd0 : s.drawn.sameBut d0 lw_cs) (kk : am_KK p l e R s m args below meth c Q nL D cT b A L0 la' st' M' pc' kc0 ks0) :
    W p l e R (s.setDrawn d0) m args below meth c H locs (M.2.1 - kc0) (M.2.2.1 - ks0) Q (F0 m pc ls sr) := by
  obtain ⟨hx, hb, hml, hown, hts, hlk, hK, hZ, hA, hini, hRf, hRl, hst⟩ := C
  obtain ⟨lr, ws, hl, hT, hS', hW, hSS, hpre⟩ := hP
  obtain ⟨rfl, rfl, rfl, rfl⟩ := nx_inj hs
  refine lv_sipush (v := (Int16.ofInt n).toInt32) hx hb hdec rfl ?_
  exact kk d0 ls _ H locs hd0 ⟨lr, ws, hl, hT, ⟨rfl, hS'⟩, hW, hSS, hpre⟩

theorem st_lconst {n : Fin 2} (C : am_Cx p l R s m args meth c own cc nL ini D cT A) (hdec : decode cc pc = .ok (.lconst n, 1)) (hs : am_step xs (.lconst n) fa fb fc v pc la st M = some (.inl (pc', la', st', M'))) (hP : am_Pt D cT b A nL L0 s.heap la st M ls sr H locs) (hd0 : s.drawn.sameBut d0 lw_cs) (kk : am_KK p l e R s m args below meth c Q nL D cT b A L0 la' st' M' pc' kc0 ks0) :
    W p l e R (s.setDrawn d0) m args below meth c H locs (M.2.1 - kc0) (M.2.2.1 - ks0) Q (F0 m pc ls sr) := by
  obtain ⟨hx, hb, hml, hown, hts, hlk, hK, hZ, hA, hini, hRf, hRl, hst⟩ := C
  obtain ⟨lr, ws, hl, hT, hS', hW, hSS, hpre⟩ := hP
  obtain ⟨rfl, rfl, rfl, rfl⟩ := nx_inj hs
  refine lv_lconst (v := Int64.ofNat (n : Nat)) hx hb hdec rfl ?_
  exact kk d0 ls _ H locs hd0 ⟨lr, ws, hl, hT, ⟨rfl, hS'⟩, hW, hSS, hpre⟩

theorem st_aconst_null (C : am_Cx p l R s m args meth c own cc nL ini D cT A) (hdec : decode cc pc = .ok (.aconst_null, 1)) (hs : am_step xs (.aconst_null) fa fb fc v pc la st M = some (.inl (pc', la', st', M'))) (hP : am_Pt D cT b A nL L0 s.heap la st M ls sr H locs) (hd0 : s.drawn.sameBut d0 lw_cs) (kk : am_KK p l e R s m args below meth c Q nL D cT b A L0 la' st' M' pc' kc0 ks0) :
    W p l e R (s.setDrawn d0) m args below meth c H locs (M.2.1 - kc0) (M.2.2.1 - ks0) Q (F0 m pc ls sr) := by
  obtain ⟨hx, hb, hml, hown, hts, hlk, hK, hZ, hA, hini, hRf, hRl, hst⟩ := C
  obtain ⟨lr, ws, hl, hT, hS', hW, hSS, hpre⟩ := hP
  obtain ⟨rfl, rfl, rfl, rfl⟩ := nx_inj hs
  refine lv_null hx hb hdec ?_
  exact kk d0 ls _ H locs hd0 ⟨lr, ws, hl, hT, ⟨rfl, hS'⟩, hW, hSS, hpre⟩

theorem st_dconst {n : Fin 2} (C : am_Cx p l R s m args meth c own cc nL ini D cT A) (hdec : decode cc pc = .ok (.dconst n, 1)) (hs : am_step xs (.dconst n) fa fb fc v pc la st M = some (.inl (pc', la', st', M'))) (hP : am_Pt D cT b A nL L0 s.heap la st M ls sr H locs) (hd0 : s.drawn.sameBut d0 lw_cs) (kk : am_KK p l e R s m args below meth c Q nL D cT b A L0 la' st' M' pc' kc0 ks0) :
    W p l e R (s.setDrawn d0) m args below meth c H locs (M.2.1 - kc0) (M.2.2.1 - ks0) Q (F0 m pc ls sr) := by
  obtain ⟨hx, hb, hml, hown, hts, hlk, hK, hZ, hA, hini, hRf, hRl, hst⟩ := C
  obtain ⟨lr, ws, hl, hT, hS', hW, hSS, hpre⟩ := hP
  obtain ⟨rfl, rfl, rfl, rfl⟩ := nx_inj hs
  match n, hdec, kk with
  | 0, hdec, kk =>
    refine lv_dconst0 hx hb hdec ?_
    exact kk d0 ls _ H locs hd0 ⟨lr, ws, hl, hT, ⟨⟨_, rfl, alike64_refl _⟩, hS'⟩, hW, hSS, hpre⟩
  | 1, hdec, kk =>
    refine lv_dconst1 hx hb hdec ?_
    exact kk d0 ls _ H locs hd0 ⟨lr, ws, hl, hT, ⟨⟨_, rfl, alike64_refl _⟩, hS'⟩, hW, hSS, hpre⟩

theorem st_ldc {idx : Nat} (C : am_Cx p l R s m args meth c own cc nL ini D cT A) (hck : am_ck1 own nL ini (.ldc idx) fa fb fc w w2 v pc = true) (hdec : decode cc pc = .ok (.ldc idx, 2)) (hs : am_step xs (.ldc idx) fa fb fc v pc la st M = some (.inl (pc', la', st', M'))) (hP : am_Pt D cT b A nL L0 s.heap la st M ls sr H locs) (hd0 : s.drawn.sameBut d0 lw_cs) (kk : am_KK p l e R s m args below meth c Q nL D cT b A L0 la' st' M' pc' kc0 ks0) :
    W p l e R (s.setDrawn d0) m args below meth c H locs (M.2.1 - kc0) (M.2.2.1 - ks0) Q (F0 m pc ls sr) := by
  obtain ⟨hx, hb, hml, hown, hts, hlk, hK, hZ, hA, hini, hRf, hRl, hst⟩ := C
  obtain ⟨lr, ws, hl, hT, hS', hW, hSS, hpre⟩ := hP
  have hs : (if fa = 0 then am_nx (pc + 2) la (v :: st) M else none) = some (.inl (pc', la', st', M')) := hs
  split at hs
  · rename_i h0
    subst h0
    obtain ⟨rfl, rfl, rfl, rfl⟩ := nx_inj hs
    cases v <;> simp [am_ck1] at hck
    refine lv_ldc hx hb hown (dr_words hts d0 _ (am_hw_in hck)) hdec ?_
    exact kk d0 ls _ H locs hd0 ⟨lr, ws, hl, hT, ⟨rfl, hS'⟩, hW, hSS, hpre⟩
  · cases hs

theorem st_ldc_w {idx : Nat} (C : am_Cx p l R s m args meth c own cc nL ini D cT A) (hck : am_ck1 own nL ini (.ldc_w idx) fa fb fc w w2 v pc = true) (hdec : decode cc pc = .ok (.ldc_w idx, 3)) (hs : am_step xs (.ldc_w idx) fa fb fc v pc la st M = some (.inl (pc', la', st', M'))) (hP : am_Pt D cT b A nL L0 s.heap la st M ls sr H locs) (hd0 : s.drawn.sameBut d0 lw_cs) (kk : am_KK p l e R s m args below meth c Q nL D cT b A L0 la' st' M' pc' kc0 ks0) :
    W p l e R (s.setDrawn d0) m args below meth c H locs (M.2.1 - kc0) (M.2.2.1 - ks0) Q (F0 m pc ls sr) := by
  obtain ⟨hx, hb, hml, hown, hts, hlk, hK, hZ, hA, hini, hRf, hRl, hst⟩ := C
  obtain ⟨lr, ws, hl, hT, hS', hW, hSS, hpre⟩ := hP
  have hs : (if fa = 0 then am_nx (pc + 3) la (v :: st) M else none) = some (.inl (pc', la', st', M')) := hs
  split at hs
  · rename_i h0
    subst h0
    obtain ⟨rfl, rfl, rfl, rfl⟩ := nx_inj hs
    cases v <;> simp [am_ck1] at hck
    refine lv_ldcw hx hb hown (dr_words hts d0 _ (am_hw_in hck)) hdec ?_
    exact kk d0 ls _ H locs hd0 ⟨lr, ws, hl, hT, ⟨rfl, hS'⟩, hW, hSS, hpre⟩
  · cases hs

theorem st_ldc2_w {idx : Nat} (C : am_Cx p l R s m args meth c own cc nL ini D cT A) (hck : am_ck1 own nL ini (.ldc2_w idx) fa fb fc w w2 v pc = true) (hdec : decode cc pc = .ok (.ldc2_w idx, 3)) (hs : am_step xs (.ldc2_w idx) fa fb fc v pc la st M = some (.inl (pc', la', st', M'))) (hP : am_Pt D cT b A nL L0 s.heap la st M ls sr H locs) (hd0 : s.drawn.sameBut d0 lw_cs) (kk : am_KK p l e R s m args below meth c Q nL D cT b A L0 la' st' M' pc' kc0 ks0) :
    W p l e R (s.setDrawn d0) m args below meth c H locs (M.2.1 - kc0) (M.2.2.1 - ks0) Q (F0 m pc ls sr) := by
  obtain ⟨hx, hb, hml, hown, hts, hlk, hK, hZ, hA, hini, hRf, hRl, hst⟩ := C
  obtain ⟨lr, ws, hl, hT, hS', hW, hSS, hpre⟩ := hP
  have hs : (if fa = 0 then am_nx (pc + 3) la (v :: st) M else none) = some (.inl (pc', la', st', M')) := hs
  split at hs
  · rename_i h0
    subst h0
    obtain ⟨rfl, rfl, rfl, rfl⟩ := nx_inj hs
    cases v <;> simp [am_ck1] at hck
    refine lv_ldc2 hx hb hown (dr_words hts d0 _ (am_hw_in hck)) hdec ?_
    exact kk d0 ls _ H locs hd0 ⟨lr, ws, hl, hT, ⟨rfl, hS'⟩, hW, hSS, hpre⟩
  · cases hs

theorem st_iload_n {k : Fin 4} (C : am_Cx p l R s m args meth c own cc nL ini D cT A) (hdec : decode cc pc = .ok (.iload_n k, 1)) (hs : am_step xs (.iload_n k) fa fb fc v pc la st M = some (.inl (pc', la', st', M'))) (hP : am_Pt D cT b A nL L0 s.heap la st M ls sr H locs) (hd0 : s.drawn.sameBut d0 lw_cs) (kk : am_KK p l e R s m args below meth c Q nL D cT b A L0 la' st' M' pc' kc0 ks0) :
    W p l e R (s.setDrawn d0) m args below meth c H locs (M.2.1 - kc0) (M.2.2.1 - ks0) Q (F0 m pc ls sr) := by
  obtain ⟨hx, hb, hml, hown, hts, hlk, hK, hZ, hA, hini, hRf, hRl, hst⟩ := C
  obtain ⟨lr, ws, hl, hT, hS', hW, hSS, hpre⟩ := hP
  obtain ⟨x, hx1, h⟩ := ldi_inv hs
  obtain ⟨rfl, rfl, rfl, rfl⟩ := nx_inj h
  obtain ⟨rv, hm, hv⟩ := hT.get hx1
  cases hv
  refine lv_iload_n hx hb hdec rfl (hl.2.2 _ hm) ?_
  exact kk d0 ls _ H locs hd0 ⟨lr, ws, hl, hT, ⟨rfl, hS'⟩, hW, hSS, hpre⟩

theorem st_iload {k : Nat} (C : am_Cx p l R s m args meth c own cc nL ini D cT A) (hdec : decode cc pc = .ok (.iload k, 2)) (hs : am_step xs (.iload k) fa fb fc v pc la st M = some (.inl (pc', la', st', M'))) (hP : am_Pt D cT b A nL L0 s.heap la st M ls sr H locs) (hd0 : s.drawn.sameBut d0 lw_cs) (kk : am_KK p l e R s m args below meth c Q nL D cT b A L0 la' st' M' pc' kc0 ks0) :
    W p l e R (s.setDrawn d0) m args below meth c H locs (M.2.1 - kc0) (M.2.2.1 - ks0) Q (F0 m pc ls sr) := by
  obtain ⟨hx, hb, hml, hown, hts, hlk, hK, hZ, hA, hini, hRf, hRl, hst⟩ := C
  obtain ⟨lr, ws, hl, hT, hS', hW, hSS, hpre⟩ := hP
  obtain ⟨x, hx1, h⟩ := ldi_inv hs
  obtain ⟨rfl, rfl, rfl, rfl⟩ := nx_inj h
  obtain ⟨rv, hm, hv⟩ := hT.get hx1
  cases hv
  refine lv_iload hx hb hdec (hl.2.2 _ hm) ?_
  exact kk d0 ls _ H locs hd0 ⟨lr, ws, hl, hT, ⟨rfl, hS'⟩, hW, hSS, hpre⟩

theorem st_lload_n {k : Fin 4} (C : am_Cx p l R s m args meth c own cc nL ini D cT A) (hdec : decode cc pc = .ok (.lload_n k, 1)) (hs : am_step xs (.lload_n k) fa fb fc v pc la st M = some (.inl (pc', la', st', M'))) (hP : am_Pt D cT b A nL L0 s.heap la st M ls sr H locs) (hd0 : s.drawn.sameBut d0 lw_cs) (kk : am_KK p l e R s m args below meth c Q nL D cT b A L0 la' st' M' pc' kc0 ks0) :
    W p l e R (s.setDrawn d0) m args below meth c H locs (M.2.1 - kc0) (M.2.2.1 - ks0) Q (F0 m pc ls sr) := by
  obtain ⟨hx, hb, hml, hown, hts, hlk, hK, hZ, hA, hini, hRf, hRl, hst⟩ := C
  obtain ⟨lr, ws, hl, hT, hS', hW, hSS, hpre⟩ := hP
  obtain ⟨x, hx1, h⟩ := ldj_inv hs
  obtain ⟨rfl, rfl, rfl, rfl⟩ := nx_inj h
  obtain ⟨rv, hm, hv⟩ := hT.get hx1
  cases hv
  refine lv_lload_n hx hb hdec rfl (hl.2.2 _ hm) ?_
  exact kk d0 ls _ H locs hd0 ⟨lr, ws, hl, hT, ⟨rfl, hS'⟩, hW, hSS, hpre⟩

theorem st_lload {k : Nat} (C : am_Cx p l R s m args meth c own cc nL ini D cT A) (hdec : decode cc pc = .ok (.lload k, 2)) (hs : am_step xs (.lload k) fa fb fc v pc la st M = some (.inl (pc', la', st', M'))) (hP : am_Pt D cT b A nL L0 s.heap la st M ls sr H locs) (hd0 : s.drawn.sameBut d0 lw_cs) (kk : am_KK p l e R s m args below meth c Q nL D cT b A L0 la' st' M' pc' kc0 ks0) :
    W p l e R (s.setDrawn d0) m args below meth c H locs (M.2.1 - kc0) (M.2.2.1 - ks0) Q (F0 m pc ls sr) := by
  obtain ⟨hx, hb, hml, hown, hts, hlk, hK, hZ, hA, hini, hRf, hRl, hst⟩ := C
  obtain ⟨lr, ws, hl, hT, hS', hW, hSS, hpre⟩ := hP
  obtain ⟨x, hx1, h⟩ := ldj_inv hs
  obtain ⟨rfl, rfl, rfl, rfl⟩ := nx_inj h
  obtain ⟨rv, hm, hv⟩ := hT.get hx1
  cases hv
  refine lv_lload hx hb hdec (hl.2.2 _ hm) ?_
  exact kk d0 ls _ H locs hd0 ⟨lr, ws, hl, hT, ⟨rfl, hS'⟩, hW, hSS, hpre⟩

theorem st_dload_n {k : Fin 4} (C : am_Cx p l R s m args meth c own cc nL ini D cT A) (hdec : decode cc pc = .ok (.dload_n k, 1)) (hs : am_step xs (.dload_n k) fa fb fc v pc la st M = some (.inl (pc', la', st', M'))) (hP : am_Pt D cT b A nL L0 s.heap la st M ls sr H locs) (hd0 : s.drawn.sameBut d0 lw_cs) (kk : am_KK p l e R s m args below meth c Q nL D cT b A L0 la' st' M' pc' kc0 ks0) :
    W p l e R (s.setDrawn d0) m args below meth c H locs (M.2.1 - kc0) (M.2.2.1 - ks0) Q (F0 m pc ls sr) := by
  obtain ⟨hx, hb, hml, hown, hts, hlk, hK, hZ, hA, hini, hRf, hRl, hst⟩ := C
  obtain ⟨lr, ws, hl, hT, hS', hW, hSS, hpre⟩ := hP
  obtain ⟨x, hx1, h⟩ := ldd_inv hs
  obtain ⟨rfl, rfl, rfl, rfl⟩ := nx_inj h
  obtain ⟨rv, hm, y, rfl, hv⟩ := hT.get hx1
  refine lv_dload_n hx hb hdec rfl (hl.2.2 _ hm) ?_
  exact kk d0 ls _ H locs hd0 ⟨lr, ws, hl, hT, ⟨⟨y, rfl, hv⟩, hS'⟩, hW, hSS, hpre⟩

theorem st_aload_n {k : Fin 4} (C : am_Cx p l R s m args meth c own cc nL ini D cT A) (hdec : decode cc pc = .ok (.aload_n k, 1)) (hs : am_step xs (.aload_n k) fa fb fc v pc la st M = some (.inl (pc', la', st', M'))) (hP : am_Pt D cT b A nL L0 s.heap la st M ls sr H locs) (hd0 : s.drawn.sameBut d0 lw_cs) (kk : am_KK p l e R s m args below meth c Q nL D cT b A L0 la' st' M' pc' kc0 ks0) :
    W p l e R (s.setDrawn d0) m args below meth c H locs (M.2.1 - kc0) (M.2.2.1 - ks0) Q (F0 m pc ls sr) := by
  obtain ⟨hx, hb, hml, hown, hts, hlk, hK, hZ, hA, hini, hRf, hRl, hst⟩ := C
  obtain ⟨lr, ws, hl, hT, hS', hW, hSS, hpre⟩ := hP
  have hs : am_lda (am_lg la k) (pc + 1) la st M = some (.inl (pc', la', st', M')) := hs
  cases hg : am_lg la k with
  | none => rw [hg] at hs; cases hs
  | some x =>
    rw [hg] at hs
    obtain ⟨rv, hm, hv⟩ := hT.get hg
    cases x with
    | ref x =>
      obtain ⟨rfl, rfl, rfl, rfl⟩ := nx_inj hs
      obtain ⟨q, h1, rfl⟩ := hv
      refine lv_aload_n hx hb hdec rfl (hl.2.2 _ hm) ?_
      exact kk d0 ls _ H locs hd0 ⟨lr, ws, hl, hT, ⟨⟨q, h1, rfl⟩, hS'⟩, hW, hSS, hpre⟩
    | null =>
      obtain ⟨rfl, rfl, rfl, rfl⟩ := nx_inj hs
      cases hv
      refine lv_aload_nN hx hb hdec rfl (hl.2.2 _ hm) ?_
      exact kk d0 ls _ H locs hd0 ⟨lr, ws, hl, hT, ⟨rfl, hS'⟩, hW, hSS, hpre⟩
    | retAddr x =>
      obtain ⟨rfl, rfl, rfl, rfl⟩ := nx_inj hs
      cases hv
      refine lv_aload_n hx hb hdec rfl (hl.2.2 _ hm) ?_
      exact kk d0 ls _ H locs hd0 ⟨lr, ws, hl, hT, ⟨rfl, hS'⟩, hW, hSS, hpre⟩
    | int x => cases hs
    | long x => cases hs
    | float x => cases hs
    | double x => cases hs

theorem st_dload {k : Nat} (C : am_Cx p l R s m args meth c own cc nL ini D cT A) (hdec : decode cc pc = .ok (.dload k, 2)) (hs : am_step xs (.dload k) fa fb fc v pc la st M = some (.inl (pc', la', st', M'))) (hP : am_Pt D cT b A nL L0 s.heap la st M ls sr H locs) (hd0 : s.drawn.sameBut d0 lw_cs) (kk : am_KK p l e R s m args below meth c Q nL D cT b A L0 la' st' M' pc' kc0 ks0) :
    W p l e R (s.setDrawn d0) m args below meth c H locs (M.2.1 - kc0) (M.2.2.1 - ks0) Q (F0 m pc ls sr) := by
  obtain ⟨hx, hb, hml, hown, hts, hlk, hK, hZ, hA, hini, hRf, hRl, hst⟩ := C
  obtain ⟨lr, ws, hl, hT, hS', hW, hSS, hpre⟩ := hP
  obtain ⟨x, hx1, h⟩ := ldd_inv hs
  obtain ⟨rfl, rfl, rfl, rfl⟩ := nx_inj h
  obtain ⟨rv, hm, y, rfl, hv⟩ := hT.get hx1
  refine lv_dload hx hb hdec (hl.2.2 _ hm) ?_
  exact kk d0 ls _ H locs hd0 ⟨lr, ws, hl, hT, ⟨⟨y, rfl, hv⟩, hS'⟩, hW, hSS, hpre⟩

theorem st_aload {k : Nat} (C : am_Cx p l R s m args meth c own cc nL ini D cT A) (hdec : decode cc pc = .ok (.aload k, 2)) (hs : am_step xs (.aload k) fa fb fc v pc la st M = some (.inl (pc', la', st', M'))) (hP : am_Pt D cT b A nL L0 s.heap la st M ls sr H locs) (hd0 : s.drawn.sameBut d0 lw_cs) (kk : am_KK p l e R s m args below meth c Q nL D cT b A L0 la' st' M' pc' kc0 ks0) :
    W p l e R (s.setDrawn d0) m args below meth c H locs (M.2.1 - kc0) (M.2.2.1 - ks0) Q (F0 m pc ls sr) := by
  obtain ⟨hx, hb, hml, hown, hts, hlk, hK, hZ, hA, hini, hRf, hRl, hst⟩ := C
  obtain ⟨lr, ws, hl, hT, hS', hW, hSS, hpre⟩ := hP
  have hs : am_lda (am_lg la k) (pc + 2) la st M = some (.inl (pc', la', st', M')) := hs
  cases hg : am_lg la k with
  | none => rw [hg] at hs; cases hs
  | some x =>
    rw [hg] at hs
    obtain ⟨rv, hm, hv⟩ := hT.get hg
    cases x with
    | ref x =>
      obtain ⟨rfl, rfl, rfl, rfl⟩ := nx_inj hs
      obtain ⟨q, h1, rfl⟩ := hv
      refine lv_aload hx hb hdec (hl.2.2 _ hm) ?_
      exact kk d0 ls _ H locs hd0 ⟨lr, ws, hl, hT, ⟨⟨q, h1, rfl⟩, hS'⟩, hW, hSS, hpre⟩
    | null =>
      obtain ⟨rfl, rfl, rfl, rfl⟩ := nx_inj hs
      cases hv
      refine lv_aloadN hx hb hdec (hl.2.2 _ hm) ?_
      exact kk d0 ls _ H locs hd0 ⟨lr, ws, hl, hT, ⟨rfl, hS'⟩, hW, hSS, hpre⟩
    | retAddr x =>
      obtain ⟨rfl, rfl, rfl, rfl⟩ := nx_inj hs
      cases hv
      refine lv_aload hx hb hdec (hl.2.2 _ hm) ?_
      exact kk d0 ls _ H locs hd0 ⟨lr, ws, hl, hT, ⟨rfl, hS'⟩, hW, hSS, hpre⟩
    | int x => cases hs
    | long x => cases hs
    | float x => cases hs
    | double x => cases hs

theorem st_istore_n {k : Fin 4} (C : am_Cx p l R s m args meth c own cc nL ini D cT A) (hck : am_ck1 own nL ini (.istore_n k) fa fb fc w w2 v pc = true) (hdec : decode cc pc = .ok (.istore_n k, 1)) (hs : am_step xs (.istore_n k) fa fb fc v pc la st M = some (.inl (pc', la', st', M'))) (hP : am_Pt D cT b A nL L0 s.heap la st M ls sr H locs) (hd0 : s.drawn.sameBut d0 lw_cs) (kk : am_KK p l e R s m args below meth c Q nL D cT b A L0 la' st' M' pc' kc0 ks0) :
    W p l e R (s.setDrawn d0) m args below meth c H locs (M.2.1 - kc0) (M.2.2.1 - ks0) Q (F0 m pc ls sr) := by
  obtain ⟨hx, hb, hml, hown, hts, hlk, hK, hZ, hA, hini, hRf, hRl, hst⟩ := C
  obtain ⟨lr, ws, hl, hT, hS', hW, hSS, hpre⟩ := hP
  obtain ⟨x, r, rfl, h⟩ := i1_inv hs
  obtain ⟨rfl, rfl, rfl, rfl⟩ := nx_inj h
  obtain ⟨r1, rfl, hS1⟩ := sr_i hS'
  refine lv_istore_n hx hb hdec rfl hl (of_decide_eq_true hck) rfl (fun ls' hl' => ?_)
  exact kk d0 ls' _ H locs hd0 ⟨_, ws, hl', ⟨rfl, rfl, (hT.filter (fun a cat => !(a == (k : Nat)) && !(a + 1 == (k : Nat) && cat == 2)))⟩, hS1, hW, hSS, hpre⟩

theorem st_istore {k : Nat} (C : am_Cx p l R s m args meth c own cc nL ini D cT A) (hck : am_ck1 own nL ini (.istore k) fa fb fc w w2 v pc = true) (hdec : decode cc pc = .ok (.istore k, 2)) (hs : am_step xs (.istore k) fa fb fc v pc la st M = some (.inl (pc', la', st', M'))) (hP : am_Pt D cT b A nL L0 s.heap la st M ls sr H locs) (hd0 : s.drawn.sameBut d0 lw_cs) (kk : am_KK p l e R s m args below meth c Q nL D cT b A L0 la' st' M' pc' kc0 ks0) :
    W p l e R (s.setDrawn d0) m args below meth c H locs (M.2.1 - kc0) (M.2.2.1 - ks0) Q (F0 m pc ls sr) := by
  obtain ⟨hx, hb, hml, hown, hts, hlk, hK, hZ, hA, hini, hRf, hRl, hst⟩ := C
  obtain ⟨lr, ws, hl, hT, hS', hW, hSS, hpre⟩ := hP
  obtain ⟨x, r, rfl, h⟩ := i1_inv hs
  obtain ⟨rfl, rfl, rfl, rfl⟩ := nx_inj h
  obtain ⟨r1, rfl, hS1⟩ := sr_i hS'
  refine lv_istore hx hb hdec hl (of_decide_eq_true hck) rfl (fun ls' hl' => ?_)
  exact kk d0 ls' _ H locs hd0 ⟨_, ws, hl', ⟨rfl, rfl, (hT.filter (fun a cat => !(a == k) && !(a + 1 == k && cat == 2)))⟩, hS1, hW, hSS, hpre⟩

theorem st_lstore_n {k : Fin 4} (C : am_Cx p l R s m args meth c own cc nL ini D cT A) (hck : am_ck1 own nL ini (.lstore_n k) fa fb fc w w2 v pc = true) (hdec : decode cc pc = .ok (.lstore_n k, 1)) (hs : am_step xs (.lstore_n k) fa fb fc v pc la st M = some (.inl (pc', la', st', M'))) (hP : am_Pt D cT b A nL L0 s.heap la st M ls sr H locs) (hd0 : s.drawn.sameBut d0 lw_cs) (kk : am_KK p l e R s m args below meth c Q nL D cT b A L0 la' st' M' pc' kc0 ks0) :
    W p l e R (s.setDrawn d0) m args below meth c H locs (M.2.1 - kc0) (M.2.2.1 - ks0) Q (F0 m pc ls sr) := by
  obtain ⟨hx, hb, hml, hown, hts, hlk, hK, hZ, hA, hini, hRf, hRl, hst⟩ := C
  obtain ⟨lr, ws, hl, hT, hS', hW, hSS, hpre⟩ := hP
  obtain ⟨x, r, rfl, h⟩ := j1_inv hs
  obtain ⟨rfl, rfl, rfl, rfl⟩ := nx_inj h
  obtain ⟨r1, rfl, hS1⟩ := sr_j hS'
  refine lv_lstore_n hx hb hdec rfl hl (of_decide_eq_true hck) rfl (fun ls' hl' => ?_)
  exact kk d0 ls' _ H locs hd0 ⟨_, ws, hl', ⟨rfl, rfl, (hT.filter (fun a cat => !(a == (k : Nat)) && (!(a == (k : Nat) + 1) && !(a + 1 == (k : Nat) && cat == 2))))⟩, hS1, hW, hSS, hpre⟩

theorem st_lstore {k : Nat} (C : am_Cx p l R s m args meth c own cc nL ini D cT A) (hck : am_ck1 own nL ini (.lstore k) fa fb fc w w2 v pc = true) (hdec : decode cc pc = .ok (.lstore k, 2)) (hs : am_step xs (.lstore k) fa fb fc v pc la st M = some (.inl (pc', la', st', M'))) (hP : am_Pt D cT b A nL L0 s.heap la st M ls sr H locs) (hd0 : s.drawn.sameBut d0 lw_cs) (kk : am_KK p l e R s m args below meth c Q nL D cT b A L0 la' st' M' pc' kc0 ks0) :
    W p l e R (s.setDrawn d0) m args below meth c H locs (M.2.1 - kc0) (M.2.2.1 - ks0) Q (F0 m pc ls sr) := by
  obtain ⟨hx, hb, hml, hown, hts, hlk, hK, hZ, hA, hini, hRf, hRl, hst⟩ := C
  obtain ⟨lr, ws, hl, hT, hS', hW, hSS, hpre⟩ := hP
  obtain ⟨x, r, rfl, h⟩ := j1_inv hs
  obtain ⟨rfl, rfl, rfl, rfl⟩ := nx_inj h
  obtain ⟨r1, rfl, hS1⟩ := sr_j hS'
  refine lv_lstore hx hb hdec hl (of_decide_eq_true hck) rfl (fun ls' hl' => ?_)
  exact kk d0 ls' _ H locs hd0 ⟨_, ws, hl', ⟨rfl, rfl, (hT.filter (fun a cat => !(a == k) && (!(a == k + 1) && !(a + 1 == k && cat == 2))))⟩, hS1, hW, hSS, hpre⟩

theorem st_dstore_n {k : Fin 4} (C : am_Cx p l R s m args meth c own cc nL ini D cT A) (hck : am_ck1 own nL ini (.dstore_n k) fa fb fc w w2 v pc = true) (hdec : decode cc pc = .ok (.dstore_n k, 1)) (hs : am_step xs (.dstore_n k) fa fb fc v pc la st M = some (.inl (pc', la', st', M'))) (hP : am_Pt D cT b A nL L0 s.heap la st M ls sr H locs) (hd0 : s.drawn.sameBut d0 lw_cs) (kk : am_KK p l e R s m args below meth c Q nL D cT b A L0 la' st' M' pc' kc0 ks0) :
    W p l e R (s.setDrawn d0) m args below meth c H locs (M.2.1 - kc0) (M.2.2.1 - ks0) Q (F0 m pc ls sr) := by
  obtain ⟨hx, hb, hml, hown, hts, hlk, hK, hZ, hA, hini, hRf, hRl, hst⟩ := C
  obtain ⟨lr, ws, hl, hT, hS', hW, hSS, hpre⟩ := hP
  obtain ⟨x, r, rfl, h⟩ := d1_inv hs
  obtain ⟨rfl, rfl, rfl, rfl⟩ := nx_inj h
  obtain ⟨y, r1, rfl, hy, hS1⟩ := sr_d hS'
  refine lv_dstore_n hx hb hdec rfl hl (of_decide_eq_true hck) rfl (fun ls' hl' => ?_)
  exact kk d0 ls' _ H locs hd0 ⟨_, ws, hl', ⟨rfl, ⟨y, rfl, hy⟩, (hT.filter (fun a cat => !(a == (k : Nat)) && (!(a == (k : Nat) + 1) && !(a + 1 == (k : Nat) && cat == 2))))⟩, hS1, hW, hSS, hpre⟩

theorem st_astore_n {k : Fin 4} (C : am_Cx p l R s m args meth c own cc nL ini D cT A) (hck : am_ck1 own nL ini (.astore_n k) fa fb fc w w2 v pc = true) (hdec : decode cc pc = .ok (.astore_n k, 1)) (hs : am_step xs (.astore_n k) fa fb fc v pc la st M = some (.inl (pc', la', st', M'))) (hP : am_Pt D cT b A nL L0 s.heap la st M ls sr H locs) (hd0 : s.drawn.sameBut d0 lw_cs) (kk : am_KK p l e R s m args below meth c Q nL D cT b A L0 la' st' M' pc' kc0 ks0) :
    W p l e R (s.setDrawn d0) m args below meth c H locs (M.2.1 - kc0) (M.2.2.1 - ks0) Q (F0 m pc ls sr) := by
  obtain ⟨hx, hb, hml, hown, hts, hlk, hK, hZ, hA, hini, hRf, hRl, hst⟩ := C
  obtain ⟨lr, ws, hl, hT, hS', hW, hSS, hpre⟩ := hP
  have hs : am_sta k (pc + 1) la st M = some (.inl (pc', la', st', M')) := hs
  unfold am_sta at hs
  split at hs
  · obtain ⟨rfl, rfl, rfl, rfl⟩ := nx_inj hs
    obtain ⟨q, r1, rfl, hq, hS1⟩ := sr_a hS'
    refine lv_astore_n hx hb hdec rfl hl (of_decide_eq_true hck) rfl (fun ls' hl' => ?_)
    exact kk d0 ls' _ H locs hd0 ⟨_, ws, hl', ⟨rfl, ⟨q, hq, rfl⟩, (hT.filter (fun a cat => !(a == (k : Nat)) && !(a + 1 == (k : Nat) && cat == 2)))⟩, hS1, hW, hSS, hpre⟩
  · obtain ⟨rfl, rfl, rfl, rfl⟩ := nx_inj hs
    obtain ⟨r1, rfl, hS1⟩ := sr_n hS'
    refine lv_astore_nN hx hb hdec rfl hl (of_decide_eq_true hck) rfl (fun ls' hl' => ?_)
    exact kk d0 ls' _ H locs hd0 ⟨_, ws, hl', ⟨rfl, rfl, (hT.filter (fun a cat => !(a == (k : Nat)) && !(a + 1 == (k : Nat) && cat == 2)))⟩, hS1, hW, hSS, hpre⟩
  · obtain ⟨rfl, rfl, rfl, rfl⟩ := nx_inj hs
    obtain ⟨r1, rfl, hS1⟩ := sr_x hS'
    refine lv_astore_n hx hb hdec rfl hl (of_decide_eq_true hck) rfl (fun ls' hl' => ?_)
    exact kk d0 ls' _ H locs hd0 ⟨_, ws, hl', ⟨rfl, rfl, (hT.filter (fun a cat => !(a == (k : Nat)) && !(a + 1 == (k : Nat) && cat == 2)))⟩, hS1, hW, hSS, hpre⟩
  · obtain ⟨rfl, rfl, rfl, rfl⟩ := nx_inj hs
    obtain ⟨q, r1, rfl, hS1⟩ := sr_f hS'
    refine lv_astore_n hx hb hdec rfl hl (of_decide_eq_true hck) rfl (fun ls' hl' => ?_)
    exact kk d0 ls' _ H locs hd0 ⟨_, ws, hl', ⟨rfl, ⟨q, rfl⟩, (hT.filter (fun a cat => !(a == (k : Nat)) && !(a + 1 == (k : Nat) && cat == 2)))⟩, hS1, hW, hSS, hpre⟩
  · cases hs

theorem st_dstore {k : Nat} (C : am_Cx p l R s m args meth c own cc nL ini D cT A) (hck : am_ck1 own nL ini (.dstore k) fa fb fc w w2 v pc = true) (hdec : decode cc pc = .ok (.dstore k, 2)) (hs : am_step xs (.dstore k) fa fb fc v pc la st M = some (.inl (pc', la', st', M'))) (hP : am_Pt D cT b A nL L0 s.heap la st M ls sr H locs) (hd0 : s.drawn.sameBut d0 lw_cs) (kk : am_KK p l e R s m args below meth c Q nL D cT b A L0 la' st' M' pc' kc0 ks0) :
    W p l e R (s.setDrawn d0) m args below meth c H locs (M.2.1 - kc0) (M.2.2.1 - ks0) Q (F0 m pc ls sr) := by
  obtain ⟨hx, hb, hml, hown, hts, hlk, hK, hZ, hA, hini, hRf, hRl, hst⟩ := C
  obtain ⟨lr, ws, hl, hT, hS', hW, hSS, hpre⟩ := hP
  obtain ⟨x, r, rfl, h⟩ := d1_inv hs
  obtain ⟨rfl, rfl, rfl, rfl⟩ := nx_inj h
  obtain ⟨y, r1, rfl, hy, hS1⟩ := sr_d hS'
  refine lv_dstore hx hb hdec hl (of_decide_eq_true hck) rfl (fun ls' hl' => ?_)
  exact kk d0 ls' _ H locs hd0 ⟨_, ws, hl', ⟨rfl, ⟨y, rfl, hy⟩, (hT.filter (fun a cat => !(a == k) && (!(a == k + 1) && !(a + 1 == k && cat == 2))))⟩, hS1, hW, hSS, hpre⟩

theorem st_astore {k : Nat} (C : am_Cx p l R s m args meth c own cc nL ini D cT A) (hck : am_ck1 own nL ini (.astore k) fa fb fc w w2 v pc = true) (hdec : decode cc pc = .ok (.astore k, 2)) (hs : am_step xs (.astore k) fa fb fc v pc la st M = some (.inl (pc', la', st', M'))) (hP : am_Pt D cT b A nL L0 s.heap la st M ls sr H locs) (hd0 : s.drawn.sameBut d0 lw_cs) (kk : am_KK p l e R s m args below meth c Q nL D cT b A L0 la' st' M' pc' kc0 ks0) :
    W p l e R (s.setDrawn d0) m args below meth c H locs (M.2.1 - kc0) (M.2.2.1 - ks0) Q (F0 m pc ls sr) := by
  obtain ⟨hx, hb, hml, hown, hts, hlk, hK, hZ, hA, hini, hRf, hRl, hst⟩ := C
  obtain ⟨lr, ws, hl, hT, hS', hW, hSS, hpre⟩ := hP
  have hs : am_sta k (pc + 2) la st M = some (.inl (pc', la', st', M')) := hs
  unfold am_sta at hs
  split at hs
  · obtain ⟨rfl, rfl, rfl, rfl⟩ := nx_inj hs
    obtain ⟨q, r1, rfl, hq, hS1⟩ := sr_a hS'
    refine lv_astore hx hb hdec hl (of_decide_eq_true hck) rfl (fun ls' hl' => ?_)
    exact kk d0 ls' _ H locs hd0 ⟨_, ws, hl', ⟨rfl, ⟨q, hq, rfl⟩, (hT.filter (fun a cat => !(a == k) && !(a + 1 == k && cat == 2)))⟩, hS1, hW, hSS, hpre⟩
  · obtain ⟨rfl, rfl, rfl, rfl⟩ := nx_inj hs
    obtain ⟨r1, rfl, hS1⟩ := sr_n hS'
    refine lv_astoreN hx hb hdec hl (of_decide_eq_true hck) rfl (fun ls' hl' => ?_)
    exact kk d0 ls' _ H locs hd0 ⟨_, ws, hl', ⟨rfl, rfl, (hT.filter (fun a cat => !(a == k) && !(a + 1 == k && cat == 2)))⟩, hS1, hW, hSS, hpre⟩
  · obtain ⟨rfl, rfl, rfl, rfl⟩ := nx_inj hs
    obtain ⟨r1, rfl, hS1⟩ := sr_x hS'
    refine lv_astore hx hb hdec hl (of_decide_eq_true hck) rfl (fun ls' hl' => ?_)
    exact kk d0 ls' _ H locs hd0 ⟨_, ws, hl', ⟨rfl, rfl, (hT.filter (fun a cat => !(a == k) && !(a + 1 == k && cat == 2)))⟩, hS1, hW, hSS, hpre⟩
  · obtain ⟨rfl, rfl, rfl, rfl⟩ := nx_inj hs
    obtain ⟨q, r1, rfl, hS1⟩ := sr_f hS'
    refine lv_astore hx hb hdec hl (of_decide_eq_true hck) rfl (fun ls' hl' => ?_)
    exact kk d0 ls' _ H locs hd0 ⟨_, ws, hl', ⟨rfl, ⟨q, rfl⟩, (hT.filter (fun a cat => !(a == k) && !(a + 1 == k && cat == 2)))⟩, hS1, hW, hSS, hpre⟩
  · cases hs

theorem st_iinc {k : Nat} {n : Int} (C : am_Cx p l R s m args meth c own cc nL ini D cT A) (hck : am_ck1 own nL ini (.iinc k n) fa fb fc w w2 v pc = true) (hdec : decode cc pc = .ok (.iinc k n, 3)) (hs : am_step xs (.iinc k n) fa fb fc v pc la st M = some (.inl (pc', la', st', M'))) (hP : am_Pt D cT b A nL L0 s.heap la st M ls sr H locs) (hd0 : s.drawn.sameBut d0 lw_cs) (kk : am_KK p l e R s m args below meth c Q nL D cT b A L0 la' st' M' pc' kc0 ks0) :
    W p l e R (s.setDrawn d0) m args below meth c H locs (M.2.1 - kc0) (M.2.2.1 - ks0) Q (F0 m pc ls sr) := by
  obtain ⟨hx, hb, hml, hown, hts, hlk, hK, hZ, hA, hini, hRf, hRl, hst⟩ := C
  obtain ⟨lr, ws, hl, hT, hS', hW, hSS, hpre⟩ := hP
  have hs : am_inc (am_lg la k) k (Int32.ofInt n) (pc + 3) la st M = some (.inl (pc', la', st', M')) := hs
  unfold am_inc at hs
  split at hs
  · rename_i x hg
    obtain ⟨rfl, rfl, rfl, rfl⟩ := nx_inj hs
    obtain ⟨rv, hm, hv⟩ := hT.get hg
    cases hv
    obtain ⟨k0, hk0⟩ := List.getElem?_of_mem hm
    refine lv_iinc (v := x + Int32.ofInt n) hx hb hdec hl hk0 rfl (of_decide_eq_true hck) rfl (fun ls' hl' => ?_)
    exact kk d0 ls' _ H locs hd0 ⟨_, ws, hl', ⟨rfl, rfl, (hT.filter (fun a cat => !(a == k) && !(a + 1 == k && cat == 2)))⟩, hS', hW, hSS, hpre⟩
  · cases hs

theorem st_iadd (C : am_Cx p l R s m args meth c own cc nL ini D cT A) (hdec : decode cc pc = .ok (.iadd, 1)) (hs : am_step xs (.iadd) fa fb fc v pc la st M = some (.inl (pc', la', st', M'))) (hP : am_Pt D cT b A nL L0 s.heap la st M ls sr H locs) (hd0 : s.drawn.sameBut d0 lw_cs) (kk : am_KK p l e R s m args below meth c Q nL D cT b A L0 la' st' M' pc' kc0 ks0) :
    W p l e R (s.setDrawn d0) m args below meth c H locs (M.2.1 - kc0) (M.2.2.1 - ks0) Q (F0 m pc ls sr) := by
  obtain ⟨hx, hb, hml, hown, hts, hlk, hK, hZ, hA, hini, hRf, hRl, hst⟩ := C
  obtain ⟨lr, ws, hl, hT, hS', hW, hSS, hpre⟩ := hP
  obtain ⟨x, y, r, rfl, h⟩ := i2_inv hs
  obtain ⟨rfl, rfl, rfl, rfl⟩ := nx_inj h
  obtain ⟨r1, rfl, hS1⟩ := sr_i hS'
  obtain ⟨r2, rfl, hS2⟩ := sr_i hS1
  refine lv_iadd hx hb hdec ?_
  exact kk d0 ls _ H locs hd0 ⟨lr, ws, hl, hT, ⟨rfl, hS2⟩, hW, hSS, hpre⟩

theorem st_isub (C : am_Cx p l R s m args meth c own cc nL ini D cT A) (hdec : decode cc pc = .ok (.isub, 1)) (hs : am_step xs (.isub) fa fb fc v pc la st M = some (.inl (pc', la', st', M'))) (hP : am_Pt D cT b A nL L0 s.heap la st M ls sr H locs) (hd0 : s.drawn.sameBut d0 lw_cs) (kk : am_KK p l e R s m args below meth c Q nL D cT b A L0 la' st' M' pc' kc0 ks0) :
    W p l e R (s.setDrawn d0) m args below meth c H locs (M.2.1 - kc0) (M.2.2.1 - ks0) Q (F0 m pc ls sr) := by
  obtain ⟨hx, hb, hml, hown, hts, hlk, hK, hZ, hA, hini, hRf, hRl, hst⟩ := C
  obtain ⟨lr, ws, hl, hT, hS', hW, hSS, hpre⟩ := hP
  obtain ⟨x, y, r, rfl, h⟩ := i2_inv hs
  obtain ⟨rfl, rfl, rfl, rfl⟩ := nx_inj h
  obtain ⟨r1, rfl, hS1⟩ := sr_i hS'
  obtain ⟨r2, rfl, hS2⟩ := sr_i hS1
  refine lv_isub hx hb hdec ?_
  exact kk d0 ls _ H locs hd0 ⟨lr, ws, hl, hT, ⟨rfl, hS2⟩, hW, hSS, hpre⟩

theorem st_imul (C : am_Cx p l R s m args meth c own cc nL ini D cT A) (hdec : decode cc pc = .ok (.imul, 1)) (hs : am_step xs (.imul) fa fb fc v pc la st M = some (.inl (pc', la', st', M'))) (hP : am_Pt D cT b A nL L0 s.heap la st M ls sr H locs) (hd0 : s.drawn.sameBut d0 lw_cs) (kk : am_KK p l e R s m args below meth c Q nL D cT b A L0 la' st' M' pc' kc0 ks0) :
    W p l e R (s.setDrawn d0) m args below meth c H locs (M.2.1 - kc0) (M.2.2.1 - ks0) Q (F0 m pc ls sr) := by
  obtain ⟨hx, hb, hml, hown, hts, hlk, hK, hZ, hA, hini, hRf, hRl, hst⟩ := C
  obtain ⟨lr, ws, hl, hT, hS', hW, hSS, hpre⟩ := hP
  obtain ⟨x, y, r, rfl, h⟩ := i2_inv hs
  obtain ⟨rfl, rfl, rfl, rfl⟩ := nx_inj h
  obtain ⟨r1, rfl, hS1⟩ := sr_i hS'
  obtain ⟨r2, rfl, hS2⟩ := sr_i hS1
  refine lv_imul hx hb hdec ?_
  exact kk d0 ls _ H locs hd0 ⟨lr, ws, hl, hT, ⟨rfl, hS2⟩, hW, hSS, hpre⟩

theorem st_iand (C : am_Cx p l R s m args meth c own cc nL ini D cT A) (hdec : decode cc pc = .ok (.iand, 1)) (hs : am_step xs (.iand) fa fb fc v pc la st M = some (.inl (pc', la', st', M'))) (hP : am_Pt D cT b A nL L0 s.heap la st M ls sr H locs) (hd0 : s.drawn.sameBut d0 lw_cs) (kk : am_KK p l e R s m args below meth c Q nL D cT b A L0 la' st' M' pc' kc0 ks0) :
    W p l e R (s.setDrawn d0) m args below meth c H locs (M.2.1 - kc0) (M.2.2.1 - ks0) Q (F0 m pc ls sr) := by
  obtain ⟨hx, hb, hml, hown, hts, hlk, hK, hZ, hA, hini, hRf, hRl, hst⟩ := C
  obtain ⟨lr, ws, hl, hT, hS', hW, hSS, hpre⟩ := hP
  obtain ⟨x, y, r, rfl, h⟩ := i2_inv hs
  obtain ⟨rfl, rfl, rfl, rfl⟩ := nx_inj h
  obtain ⟨r1, rfl, hS1⟩ := sr_i hS'
  obtain ⟨r2, rfl, hS2⟩ := sr_i hS1
  refine lv_iand hx hb hdec ?_
  exact kk d0 ls _ H locs hd0 ⟨lr, ws, hl, hT, ⟨rfl, hS2⟩, hW, hSS, hpre⟩

theorem st_ixor (C : am_Cx p l R s m args meth c own cc nL ini D cT A) (hdec : decode cc pc = .ok (.ixor, 1)) (hs : am_step xs (.ixor) fa fb fc v pc la st M = some (.inl (pc', la', st', M'))) (hP : am_Pt D cT b A nL L0 s.heap la st M ls sr H locs) (hd0 : s.drawn.sameBut d0 lw_cs) (kk : am_KK p l e R s m args below meth c Q nL D cT b A L0 la' st' M' pc' kc0 ks0) :
    W p l e R (s.setDrawn d0) m args below meth c H locs (M.2.1 - kc0) (M.2.2.1 - ks0) Q (F0 m pc ls sr) := by
  obtain ⟨hx, hb, hml, hown, hts, hlk, hK, hZ, hA, hini, hRf, hRl, hst⟩ := C
  obtain ⟨lr, ws, hl, hT, hS', hW, hSS, hpre⟩ := hP
  obtain ⟨x, y, r, rfl, h⟩ := i2_inv hs
  obtain ⟨rfl, rfl, rfl, rfl⟩ := nx_inj h
  obtain ⟨r1, rfl, hS1⟩ := sr_i hS'
  obtain ⟨r2, rfl, hS2⟩ := sr_i hS1
  refine lv_ixor hx hb hdec ?_
  exact kk d0 ls _ H locs hd0 ⟨lr, ws, hl, hT, ⟨rfl, hS2⟩, hW, hSS, hpre⟩

theorem st_idiv (C : am_Cx p l R s m args meth c own cc nL ini D cT A) (hdec : decode cc pc = .ok (.idiv, 1)) (hs : am_step xs (.idiv) fa fb fc v pc la st M = some (.inl (pc', la', st', M'))) (hP : am_Pt D cT b A nL L0 s.heap la st M ls sr H locs) (hd0 : s.drawn.sameBut d0 lw_cs) (kk : am_KK p l e R s m args below meth c Q nL D cT b A L0 la' st' M' pc' kc0 ks0) :
    W p l e R (s.setDrawn d0) m args below meth c H locs (M.2.1 - kc0) (M.2.2.1 - ks0) Q (F0 m pc ls sr) := by
  obtain ⟨hx, hb, hml, hown, hts, hlk, hK, hZ, hA, hini, hRf, hRl, hst⟩ := C
  obtain ⟨lr, ws, hl, hT, hS', hW, hSS, hpre⟩ := hP
  obtain ⟨x, y, r, rfl, h⟩ := i2_inv hs
  split at h
  · cases h
  · rename_i hne
    obtain ⟨rfl, rfl, rfl, rfl⟩ := nx_inj h
    obtain ⟨r1, rfl, hS1⟩ := sr_i hS'
    obtain ⟨r2, rfl, hS2⟩ := sr_i hS1
    refine lv_idiv hx hb hdec hne ?_
    exact kk d0 ls _ H locs hd0 ⟨lr, ws, hl, hT, ⟨rfl, hS2⟩, hW, hSS, hpre⟩

theorem st_irem (C : am_Cx p l R s m args meth c own cc nL ini D cT A) (hdec : decode cc pc = .ok (.irem, 1)) (hs : am_step xs (.irem) fa fb fc v pc la st M = some (.inl (pc', la', st', M'))) (hP : am_Pt D cT b A nL L0 s.heap la st M ls sr H locs) (hd0 : s.drawn.sameBut d0 lw_cs) (kk : am_KK p l e R s m args below meth c Q nL D cT b A L0 la' st' M' pc' kc0 ks0) :
    W p l e R (s.setDrawn d0) m args below meth c H locs (M.2.1 - kc0) (M.2.2.1 - ks0) Q (F0 m pc ls sr) := by
  obtain ⟨hx, hb, hml, hown, hts, hlk, hK, hZ, hA, hini, hRf, hRl, hst⟩ := C
  obtain ⟨lr, ws, hl, hT, hS', hW, hSS, hpre⟩ := hP
  obtain ⟨x, y, r, rfl, h⟩ := i2_inv hs
  split at h
  · cases h
  · rename_i hne
    obtain ⟨rfl, rfl, rfl, rfl⟩ := nx_inj h
    obtain ⟨r1, rfl, hS1⟩ := sr_i hS'
    obtain ⟨r2, rfl, hS2⟩ := sr_i hS1
    refine lv_irem hx hb hdec hne ?_
    exact kk d0 ls _ H locs hd0 ⟨lr, ws, hl, hT, ⟨rfl, hS2⟩, hW, hSS, hpre⟩

theorem st_ladd (C : am_Cx p l R s m args meth c own cc nL ini D cT A) (hdec : decode cc pc = .ok (.ladd, 1)) (hs : am_step xs (.ladd) fa fb fc v pc la st M = some (.inl (pc', la', st', M'))) (hP : am_Pt D cT b A nL L0 s.heap la st M ls sr H locs) (hd0 : s.drawn.sameBut d0 lw_cs) (kk : am_KK p l e R s m args below meth c Q nL D cT b A L0 la' st' M' pc' kc0 ks0) :
    W p l e R (s.setDrawn d0) m args below meth c H locs (M.2.1 - kc0) (M.2.2.1 - ks0) Q (F0 m pc ls sr) := by
  obtain ⟨hx, hb, hml, hown, hts, hlk, hK, hZ, hA, hini, hRf, hRl, hst⟩ := C
  obtain ⟨lr, ws, hl, hT, hS', hW, hSS, hpre⟩ := hP
  obtain ⟨x, y, r, rfl, h⟩ := j2_inv hs
  obtain ⟨rfl, rfl, rfl, rfl⟩ := nx_inj h
  obtain ⟨r1, rfl, hS1⟩ := sr_j hS'
  obtain ⟨r2, rfl, hS2⟩ := sr_j hS1
  refine lv_ladd hx hb hdec ?_
  exact kk d0 ls _ H locs hd0 ⟨lr, ws, hl, hT, ⟨rfl, hS2⟩, hW, hSS, hpre⟩

theorem st_lsub (C : am_Cx p l R s m args meth c own cc nL ini D cT A) (hdec : decode cc pc = .ok (.lsub, 1)) (hs : am_step xs (.lsub) fa fb fc v pc la st M = some (.inl (pc', la', st', M'))) (hP : am_Pt D cT b A nL L0 s.heap la st M ls sr H locs) (hd0 : s.drawn.sameBut d0 lw_cs) (kk : am_KK p l e R s m args below meth c Q nL D cT b A L0 la' st' M' pc' kc0 ks0) :
    W p l e R (s.setDrawn d0) m args below meth c H locs (M.2.1 - kc0) (M.2.2.1 - ks0) Q (F0 m pc ls sr) := by
  obtain ⟨hx, hb, hml, hown, hts, hlk, hK, hZ, hA, hini, hRf, hRl, hst⟩ := C
  obtain ⟨lr, ws, hl, hT, hS', hW, hSS, hpre⟩ := hP
  obtain ⟨x, y, r, rfl, h⟩ := j2_inv hs
  obtain ⟨rfl, rfl, rfl, rfl⟩ := nx_inj h
  obtain ⟨r1, rfl, hS1⟩ := sr_j hS'
  obtain ⟨r2, rfl, hS2⟩ := sr_j hS1
  refine lv_lsub hx hb hdec ?_
  exact kk d0 ls _ H locs hd0 ⟨lr, ws, hl, hT, ⟨rfl, hS2⟩, hW, hSS, hpre⟩

theorem st_lmul (C : am_Cx p l R s m args meth c own cc nL ini D cT A) (hdec : decode cc pc = .ok (.lmul, 1)) (hs : am_step xs (.lmul) fa fb fc v pc la st M = some (.inl (pc', la', st', M'))) (hP : am_Pt D cT b A nL L0 s.heap la st M ls sr H locs) (hd0 : s.drawn.sameBut d0 lw_cs) (kk : am_KK p l e R s m args below meth c Q nL D cT b A L0 la' st' M' pc' kc0 ks0) :
    W p l e R (s.setDrawn d0) m args below meth c H locs (M.2.1 - kc0) (M.2.2.1 - ks0) Q (F0 m pc ls sr) := by
  obtain ⟨hx, hb, hml, hown, hts, hlk, hK, hZ, hA, hini, hRf, hRl, hst⟩ := C
  obtain ⟨lr, ws, hl, hT, hS', hW, hSS, hpre⟩ := hP
  obtain ⟨x, y, r, rfl, h⟩ := j2_inv hs
  obtain ⟨rfl, rfl, rfl, rfl⟩ := nx_inj h
  obtain ⟨r1, rfl, hS1⟩ := sr_j hS'
  obtain ⟨r2, rfl, hS2⟩ := sr_j hS1
  refine lv_lmul hx hb hdec ?_
  exact kk d0 ls _ H locs hd0 ⟨lr, ws, hl, hT, ⟨rfl, hS2⟩, hW, hSS, hpre⟩

theorem st_land (C : am_Cx p l R s m args meth c own cc nL ini D cT A) (hdec : decode cc pc = .ok (.land, 1)) (hs : am_step xs (.land) fa fb fc v pc la st M = some (.inl (pc', la', st', M'))) (hP : am_Pt D cT b A nL L0 s.heap la st M ls sr H locs) (hd0 : s.drawn.sameBut d0 lw_cs) (kk : am_KK p l e R s m args below meth c Q nL D cT b A L0 la' st' M' pc' kc0 ks0) :
    W p l e R (s.setDrawn d0) m args below meth c H locs (M.2.1 - kc0) (M.2.2.1 - ks0) Q (F0 m pc ls sr) := by
  obtain ⟨hx, hb, hml, hown, hts, hlk, hK, hZ, hA, hini, hRf, hRl, hst⟩ := C
  obtain ⟨lr, ws, hl, hT, hS', hW, hSS, hpre⟩ := hP
  obtain ⟨x, y, r, rfl, h⟩ := j2_inv hs
  obtain ⟨rfl, rfl, rfl, rfl⟩ := nx_inj h
  obtain ⟨r1, rfl, hS1⟩ := sr_j hS'
  obtain ⟨r2, rfl, hS2⟩ := sr_j hS1
  refine lv_land hx hb hdec ?_
  exact kk d0 ls _ H locs hd0 ⟨lr, ws, hl, hT, ⟨rfl, hS2⟩, hW, hSS, hpre⟩

theorem st_lor (C : am_Cx p l R s m args meth c own cc nL ini D cT A) (hdec : decode cc pc = .ok (.lor, 1)) (hs : am_step xs (.lor) fa fb fc v pc la st M = some (.inl (pc', la', st', M'))) (hP : am_Pt D cT b A nL L0 s.heap la st M ls sr H locs) (hd0 : s.drawn.sameBut d0 lw_cs) (kk : am_KK p l e R s m args below meth c Q nL D cT b A L0 la' st' M' pc' kc0 ks0) :
    W p l e R (s.setDrawn d0) m args below meth c H locs (M.2.1 - kc0) (M.2.2.1 - ks0) Q (F0 m pc ls sr) := by
  obtain ⟨hx, hb, hml, hown, hts, hlk, hK, hZ, hA, hini, hRf, hRl, hst⟩ := C
  obtain ⟨lr, ws, hl, hT, hS', hW, hSS, hpre⟩ := hP
  obtain ⟨x, y, r, rfl, h⟩ := j2_inv hs
  obtain ⟨rfl, rfl, rfl, rfl⟩ := nx_inj h
  obtain ⟨r1, rfl, hS1⟩ := sr_j hS'
  obtain ⟨r2, rfl, hS2⟩ := sr_j hS1
  refine lv_lor hx hb hdec ?_
  exact kk d0 ls _ H locs hd0 ⟨lr, ws, hl, hT, ⟨rfl, hS2⟩, hW, hSS, hpre⟩

theorem st_lxor (C : am_Cx p l R s m args meth c own cc nL ini D cT A) (hdec : decode cc pc = .ok (.lxor, 1)) (hs : am_step xs (.lxor) fa fb fc v pc la st M = some (.inl (pc', la', st', M'))) (hP : am_Pt D cT b A nL L0 s.heap la st M ls sr H locs) (hd0 : s.drawn.sameBut d0 lw_cs) (kk : am_KK p l e R s m args below meth c Q nL D cT b A L0 la' st' M' pc' kc0 ks0) :
    W p l e R (s.setDrawn d0) m args below meth c H locs (M.2.1 - kc0) (M.2.2.1 - ks0) Q (F0 m pc ls sr) := by
  obtain ⟨hx, hb, hml, hown, hts, hlk, hK, hZ, hA, hini, hRf, hRl, hst⟩ := C
  obtain ⟨lr, ws, hl, hT, hS', hW, hSS, hpre⟩ := hP
  obtain ⟨x, y, r, rfl, h⟩ := j2_inv hs
  obtain ⟨rfl, rfl, rfl, rfl⟩ := nx_inj h
  obtain ⟨r1, rfl, hS1⟩ := sr_j hS'
  obtain ⟨r2, rfl, hS2⟩ := sr_j hS1
  refine lv_lxor hx hb hdec ?_
  exact kk d0 ls _ H locs hd0 ⟨lr, ws, hl, hT, ⟨rfl, hS2⟩, hW, hSS, hpre⟩

theorem st_ldiv (C : am_Cx p l R s m args meth c own cc nL ini D cT A) (hdec : decode cc pc = .ok (.ldiv, 1)) (hs : am_step xs (.ldiv) fa fb fc v pc la st M = some (.inl (pc', la', st', M'))) (hP : am_Pt D cT b A nL L0 s.heap la st M ls sr H locs) (hd0 : s.drawn.sameBut d0 lw_cs) (kk : am_KK p l e R s m args below meth c Q nL D cT b A L0 la' st' M' pc' kc0 ks0) :
    W p l e R (s.setDrawn d0) m args below meth c H locs (M.2.1 - kc0) (M.2.2.1 - ks0) Q (F0 m pc ls sr) := by
  obtain ⟨hx, hb, hml, hown, hts, hlk, hK, hZ, hA, hini, hRf, hRl, hst⟩ := C
  obtain ⟨lr, ws, hl, hT, hS', hW, hSS, hpre⟩ := hP
  obtain ⟨x, y, r, rfl, h⟩ := j2_inv hs
  split at h
  · cases h
  · rename_i hne
    obtain ⟨rfl, rfl, rfl, rfl⟩ := nx_inj h
    obtain ⟨r1, rfl, hS1⟩ := sr_j hS'
    obtain ⟨r2, rfl, hS2⟩ := sr_j hS1
    refine lv_ldiv hx hb hdec hne ?_
    exact kk d0 ls _ H locs hd0 ⟨lr, ws, hl, hT, ⟨rfl, hS2⟩, hW, hSS, hpre⟩

theorem st_lrem (C : am_Cx p l R s m args meth c own cc nL ini D cT A) (hdec : decode cc pc = .ok (.lrem, 1)) (hs : am_step xs (.lrem) fa fb fc v pc la st M = some (.inl (pc', la', st', M'))) (hP : am_Pt D cT b A nL L0 s.heap la st M ls sr H locs) (hd0 : s.drawn.sameBut d0 lw_cs) (kk : am_KK p l e R s m args below meth c Q nL D cT b A L0 la' st' M' pc' kc0 ks0) :
    W p l e R (s.setDrawn d0) m args below meth c H locs (M.2.1 - kc0) (M.2.2.1 - ks0) Q (F0 m pc ls sr) := by
  obtain ⟨hx, hb, hml, hown, hts, hlk, hK, hZ, hA, hini, hRf, hRl, hst⟩ := C
  obtain ⟨lr, ws, hl, hT, hS', hW, hSS, hpre⟩ := hP
  obtain ⟨x, y, r, rfl, h⟩ := j2_inv hs
  split at h
  · cases h
  · rename_i hne
    obtain ⟨rfl, rfl, rfl, rfl⟩ := nx_inj h
    obtain ⟨r1, rfl, hS1⟩ := sr_j hS'
    obtain ⟨r2, rfl, hS2⟩ := sr_j hS1
    refine lv_lrem hx hb hdec hne ?_
    exact kk d0 ls _ H locs hd0 ⟨lr, ws, hl, hT, ⟨rfl, hS2⟩, hW, hSS, hpre⟩

theorem st_lcmp (C : am_Cx p l R s m args meth c own cc nL ini D cT A) (hdec : decode cc pc = .ok (.lcmp, 1)) (hs : am_step xs (.lcmp) fa fb fc v pc la st M = some (.inl (pc', la', st', M'))) (hP : am_Pt D cT b A nL L0 s.heap la st M ls sr H locs) (hd0 : s.drawn.sameBut d0 lw_cs) (kk : am_KK p l e R s m args below meth c Q nL D cT b A L0 la' st' M' pc' kc0 ks0) :
    W p l e R (s.setDrawn d0) m args below meth c H locs (M.2.1 - kc0) (M.2.2.1 - ks0) Q (F0 m pc ls sr) := by
  obtain ⟨hx, hb, hml, hown, hts, hlk, hK, hZ, hA, hini, hRf, hRl, hst⟩ := C
  obtain ⟨lr, ws, hl, hT, hS', hW, hSS, hpre⟩ := hP
  obtain ⟨x, y, r, rfl, h⟩ := j2_inv hs
  obtain ⟨rfl, rfl, rfl, rfl⟩ := nx_inj h
  obtain ⟨r1, rfl, hS1⟩ := sr_j hS'
  obtain ⟨r2, rfl, hS2⟩ := sr_j hS1
  refine W.lcmp hx hb hdec ?_
  exact kk d0 ls _ H locs hd0 ⟨lr, ws, hl, hT, ⟨rfl, hS2⟩, hW, hSS, hpre⟩

theorem st_iushr (C : am_Cx p l R s m args meth c own cc nL ini D cT A) (hdec : decode cc pc = .ok (.iushr, 1)) (hs : am_step xs (.iushr) fa fb fc v pc la st M = some (.inl (pc', la', st', M'))) (hP : am_Pt D cT b A nL L0 s.heap la st M ls sr H locs) (hd0 : s.drawn.sameBut d0 lw_cs) (kk : am_KK p l e R s m args below meth c Q nL D cT b A L0 la' st' M' pc' kc0 ks0) :
    W p l e R (s.setDrawn d0) m args below meth c H locs (M.2.1 - kc0) (M.2.2.1 - ks0) Q (F0 m pc ls sr) := by
  obtain ⟨hx, hb, hml, hown, hts, hlk, hK, hZ, hA, hini, hRf, hRl, hst⟩ := C
  obtain ⟨lr, ws, hl, hT, hS', hW, hSS, hpre⟩ := hP
  obtain ⟨x, y, r, rfl, h⟩ := i2_inv hs
  obtain ⟨rfl, rfl, rfl, rfl⟩ := nx_inj h
  obtain ⟨r1, rfl, hS1⟩ := sr_i hS'
  obtain ⟨r2, rfl, hS2⟩ := sr_i hS1
  refine lv_iushr hx hb hdec rfl ?_
  exact kk d0 ls _ H locs hd0 ⟨lr, ws, hl, hT, ⟨rfl, hS2⟩, hW, hSS, hpre⟩

theorem st_lshl (C : am_Cx p l R s m args meth c own cc nL ini D cT A) (hdec : decode cc pc = .ok (.lshl, 1)) (hs : am_step xs (.lshl) fa fb fc v pc la st M = some (.inl (pc', la', st', M'))) (hP : am_Pt D cT b A nL L0 s.heap la st M ls sr H locs) (hd0 : s.drawn.sameBut d0 lw_cs) (kk : am_KK p l e R s m args below meth c Q nL D cT b A L0 la' st' M' pc' kc0 ks0) :
    W p l e R (s.setDrawn d0) m args below meth c H locs (M.2.1 - kc0) (M.2.2.1 - ks0) Q (F0 m pc ls sr) := by
  obtain ⟨hx, hb, hml, hown, hts, hlk, hK, hZ, hA, hini, hRf, hRl, hst⟩ := C
  obtain ⟨lr, ws, hl, hT, hS', hW, hSS, hpre⟩ := hP
  obtain ⟨x, y, r, rfl, h⟩ := ij_inv hs
  obtain ⟨rfl, rfl, rfl, rfl⟩ := nx_inj h
  obtain ⟨r1, rfl, hS1⟩ := sr_i hS'
  obtain ⟨r2, rfl, hS2⟩ := sr_j hS1
  refine lv_lshl hx hb hdec rfl ?_
  exact kk d0 ls _ H locs hd0 ⟨lr, ws, hl, hT, ⟨rfl, hS2⟩, hW, hSS, hpre⟩

theorem st_lneg (C : am_Cx p l R s m args meth c own cc nL ini D cT A) (hdec : decode cc pc = .ok (.lneg, 1)) (hs : am_step xs (.lneg) fa fb fc v pc la st M = some (.inl (pc', la', st', M'))) (hP : am_Pt D cT b A nL L0 s.heap la st M ls sr H locs) (hd0 : s.drawn.sameBut d0 lw_cs) (kk : am_KK p l e R s m args below meth c Q nL D cT b A L0 la' st' M' pc' kc0 ks0) :
    W p l e R (s.setDrawn d0) m args below meth c H locs (M.2.1 - kc0) (M.2.2.1 - ks0) Q (F0 m pc ls sr) := by
  obtain ⟨hx, hb, hml, hown, hts, hlk, hK, hZ, hA, hini, hRf, hRl, hst⟩ := C
  obtain ⟨lr, ws, hl, hT, hS', hW, hSS, hpre⟩ := hP
  obtain ⟨x, r, rfl, h⟩ := j1_inv hs
  obtain ⟨rfl, rfl, rfl, rfl⟩ := nx_inj h
  obtain ⟨r1, rfl, hS1⟩ := sr_j hS'
  refine lv_lneg hx hb hdec ?_
  exact kk d0 ls _ H locs hd0 ⟨lr, ws, hl, hT, ⟨rfl, hS1⟩, hW, hSS, hpre⟩

theorem st_i2l (C : am_Cx p l R s m args meth c own cc nL ini D cT A) (hdec : decode cc pc = .ok (.i2l, 1)) (hs : am_step xs (.i2l) fa fb fc v pc la st M = some (.inl (pc', la', st', M'))) (hP : am_Pt D cT b A nL L0 s.heap la st M ls sr H locs) (hd0 : s.drawn.sameBut d0 lw_cs) (kk : am_KK p l e R s m args below meth c Q nL D cT b A L0 la' st' M' pc' kc0 ks0) :
    W p l e R (s.setDrawn d0) m args below meth c H locs (M.2.1 - kc0) (M.2.2.1 - ks0) Q (F0 m pc ls sr) := by
  obtain ⟨hx, hb, hml, hown, hts, hlk, hK, hZ, hA, hini, hRf, hRl, hst⟩ := C
  obtain ⟨lr, ws, hl, hT, hS', hW, hSS, hpre⟩ := hP
  obtain ⟨x, r, rfl, h⟩ := i1_inv hs
  obtain ⟨rfl, rfl, rfl, rfl⟩ := nx_inj h
  obtain ⟨r1, rfl, hS1⟩ := sr_i hS'
  refine lv_i2l hx hb hdec rfl ?_
  exact kk d0 ls _ H locs hd0 ⟨lr, ws, hl, hT, ⟨rfl, hS1⟩, hW, hSS, hpre⟩

theorem st_l2i (C : am_Cx p l R s m args meth c own cc nL ini D cT A) (hdec : decode cc pc = .ok (.l2i, 1)) (hs : am_step xs (.l2i) fa fb fc v pc la st M = some (.inl (pc', la', st', M'))) (hP : am_Pt D cT b A nL L0 s.heap la st M ls sr H locs) (hd0 : s.drawn.sameBut d0 lw_cs) (kk : am_KK p l e R s m args below meth c Q nL D cT b A L0 la' st' M' pc' kc0 ks0) :
    W p l e R (s.setDrawn d0) m args below meth c H locs (M.2.1 - kc0) (M.2.2.1 - ks0) Q (F0 m pc ls sr) := by
  obtain ⟨hx, hb, hml, hown, hts, hlk, hK, hZ, hA, hini, hRf, hRl, hst⟩ := C
  obtain ⟨lr, ws, hl, hT, hS', hW, hSS, hpre⟩ := hP
  obtain ⟨x, r, rfl, h⟩ := j1_inv hs
  obtain ⟨rfl, rfl, rfl, rfl⟩ := nx_inj h
  obtain ⟨r1, rfl, hS1⟩ := sr_j hS'
  refine lv_l2i hx hb hdec rfl ?_
  exact kk d0 ls _ H locs hd0 ⟨lr, ws, hl, hT, ⟨rfl, hS1⟩, hW, hSS, hpre⟩

theorem st_i2d (C : am_Cx p l R s m args meth c own cc nL ini D cT A) (hdec : decode cc pc = .ok (.i2d, 1)) (hs : am_step xs (.i2d) fa fb fc v pc la st M = some (.inl (pc', la', st', M'))) (hP : am_Pt D cT b A nL L0 s.heap la st M ls sr H locs) (hd0 : s.drawn.sameBut d0 lw_cs) (kk : am_KK p l e R s m args below meth c Q nL D cT b A L0 la' st' M' pc' kc0 ks0) :
    W p l e R (s.setDrawn d0) m args below meth c H locs (M.2.1 - kc0) (M.2.2.1 - ks0) Q (F0 m pc ls sr) := by
  obtain ⟨hx, hb, hml, hown, hts, hlk, hK, hZ, hA, hini, hRf, hRl, hst⟩ := C
  obtain ⟨lr, ws, hl, hT, hS', hW, hSS, hpre⟩ := hP
  obtain ⟨x, r, rfl, h⟩ := i1_inv hs
  obtain ⟨rfl, rfl, rfl, rfl⟩ := nx_inj h
  obtain ⟨r1, rfl, hS1⟩ := sr_i hS'
  refine lv_i2d hx hb hdec ?_
  exact kk d0 ls _ H locs hd0 ⟨lr, ws, hl, hT, ⟨⟨_, rfl, alike64_refl _⟩, hS1⟩, hW, hSS, hpre⟩

theorem st_l2d (C : am_Cx p l R s m args meth c own cc nL ini D cT A) (hdec : decode cc pc = .ok (.l2d, 1)) (hs : am_step xs (.l2d) fa fb fc v pc la st M = some (.inl (pc', la', st', M'))) (hP : am_Pt D cT b A nL L0 s.heap la st M ls sr H locs) (hd0 : s.drawn.sameBut d0 lw_cs) (kk : am_KK p l e R s m args below meth c Q nL D cT b A L0 la' st' M' pc' kc0 ks0) :
    W p l e R (s.setDrawn d0) m args below meth c H locs (M.2.1 - kc0) (M.2.2.1 - ks0) Q (F0 m pc ls sr) := by
  obtain ⟨hx, hb, hml, hown, hts, hlk, hK, hZ, hA, hini, hRf, hRl, hst⟩ := C
  obtain ⟨lr, ws, hl, hT, hS', hW, hSS, hpre⟩ := hP
  obtain ⟨x, r, rfl, h⟩ := j1_inv hs
  obtain ⟨rfl, rfl, rfl, rfl⟩ := nx_inj h
  obtain ⟨r1, rfl, hS1⟩ := sr_j hS'
  refine lv_l2d hx hb hdec ?_
  exact kk d0 ls _ H locs hd0 ⟨lr, ws, hl, hT, ⟨⟨_, rfl, alike64_refl _⟩, hS1⟩, hW, hSS, hpre⟩

theorem st_dadd (C : am_Cx p l R s m args meth c own cc nL ini D cT A) (hdec : decode cc pc = .ok (.dadd, 1)) (hs : am_step xs (.dadd) fa fb fc v pc la st M = some (.inl (pc', la', st', M'))) (hP : am_Pt D cT b A nL L0 s.heap la st M ls sr H locs) (hd0 : s.drawn.sameBut d0 lw_cs) (kk : am_KK p l e R s m args below meth c Q nL D cT b A L0 la' st' M' pc' kc0 ks0) :
    W p l e R (s.setDrawn d0) m args below meth c H locs (M.2.1 - kc0) (M.2.2.1 - ks0) Q (F0 m pc ls sr) := by
  obtain ⟨hx, hb, hml, hown, hts, hlk, hK, hZ, hA, hini, hRf, hRl, hst⟩ := C
  obtain ⟨lr, ws, hl, hT, hS', hW, hSS, hpre⟩ := hP
  obtain ⟨x, y, r, rfl, h⟩ := d2_inv hs
  obtain ⟨rfl, rfl, rfl, rfl⟩ := nx_inj h
  obtain ⟨y1, r1, rfl, hy1, hS1⟩ := sr_d hS'
  obtain ⟨x1, r2, rfl, hx1, hS2⟩ := sr_d hS1
  refine lv_dadd_any hd0 lw_bits hx hb hdec (fun z d1 hal hd1 => ?_)
  exact kk d1 ls _ H locs hd1 ⟨lr, ws, hl, hT, ⟨⟨z, rfl, fp_op (f := FP.dadd) fp_add1 fp_add2 hx1 hy1 hal⟩, hS2⟩, hW, hSS, hpre⟩

theorem st_dsub (C : am_Cx p l R s m args meth c own cc nL ini D cT A) (hdec : decode cc pc = .ok (.dsub, 1)) (hs : am_step xs (.dsub) fa fb fc v pc la st M = some (.inl (pc', la', st', M'))) (hP : am_Pt D cT b A nL L0 s.heap la st M ls sr H locs) (hd0 : s.drawn.sameBut d0 lw_cs) (kk : am_KK p l e R s m args below meth c Q nL D cT b A L0 la' st' M' pc' kc0 ks0) :
    W p l e R (s.setDrawn d0) m args below meth c H locs (M.2.1 - kc0) (M.2.2.1 - ks0) Q (F0 m pc ls sr) := by
  obtain ⟨hx, hb, hml, hown, hts, hlk, hK, hZ, hA, hini, hRf, hRl, hst⟩ := C
  obtain ⟨lr, ws, hl, hT, hS', hW, hSS, hpre⟩ := hP
  obtain ⟨x, y, r, rfl, h⟩ := d2_inv hs
  obtain ⟨rfl, rfl, rfl, rfl⟩ := nx_inj h
  obtain ⟨y1, r1, rfl, hy1, hS1⟩ := sr_d hS'
  obtain ⟨x1, r2, rfl, hx1, hS2⟩ := sr_d hS1
  refine lv_dsub_any hd0 lw_bits hx hb hdec (fun z d1 hal hd1 => ?_)
  exact kk d1 ls _ H locs hd1 ⟨lr, ws, hl, hT, ⟨⟨z, rfl, fp_op (f := FP.dsub) fp_sub1 fp_sub2 hx1 hy1 hal⟩, hS2⟩, hW, hSS, hpre⟩

theorem st_dmul (C : am_Cx p l R s m args meth c own cc nL ini D cT A) (hdec : decode cc pc = .ok (.dmul, 1)) (hs : am_step xs (.dmul) fa fb fc v pc la st M = some (.inl (pc', la', st', M'))) (hP : am_Pt D cT b A nL L0 s.heap la st M ls sr H locs) (hd0 : s.drawn.sameBut d0 lw_cs) (kk : am_KK p l e R s m args below meth c Q nL D cT b A L0 la' st' M' pc' kc0 ks0) :
    W p l e R (s.setDrawn d0) m args below meth c H locs (M.2.1 - kc0) (M.2.2.1 - ks0) Q (F0 m pc ls sr) := by
  obtain ⟨hx, hb, hml, hown, hts, hlk, hK, hZ, hA, hini, hRf, hRl, hst⟩ := C
  obtain ⟨lr, ws, hl, hT, hS', hW, hSS, hpre⟩ := hP
  obtain ⟨x, y, r, rfl, h⟩ := d2_inv hs
  obtain ⟨rfl, rfl, rfl, rfl⟩ := nx_inj h
  obtain ⟨y1, r1, rfl, hy1, hS1⟩ := sr_d hS'
  obtain ⟨x1, r2, rfl, hx1, hS2⟩ := sr_d hS1
  refine lv_dmul_any hd0 lw_bits hx hb hdec (fun z d1 hal hd1 => ?_)
  exact kk d1 ls _ H locs hd1 ⟨lr, ws, hl, hT, ⟨⟨z, rfl, fp_op (f := FP.dmul) fp_mul1 fp_mul2 hx1 hy1 hal⟩, hS2⟩, hW, hSS, hpre⟩

theorem st_ddiv (C : am_Cx p l R s m args meth c own cc nL ini D cT A) (hdec : decode cc pc = .ok (.ddiv, 1)) (hs : am_step xs (.ddiv) fa fb fc v pc la st M = some (.inl (pc', la', st', M'))) (hP : am_Pt D cT b A nL L0 s.heap la st M ls sr H locs) (hd0 : s.drawn.sameBut d0 lw_cs) (kk : am_KK p l e R s m args below meth c Q nL D cT b A L0 la' st' M' pc' kc0 ks0) :
    W p l e R (s.setDrawn d0) m args below meth c H locs (M.2.1 - kc0) (M.2.2.1 - ks0) Q (F0 m pc ls sr) := by
  obtain ⟨hx, hb, hml, hown, hts, hlk, hK, hZ, hA, hini, hRf, hRl, hst⟩ := C
  obtain ⟨lr, ws, hl, hT, hS', hW, hSS, hpre⟩ := hP
  obtain ⟨x, y, r, rfl, h⟩ := d2_inv hs
  obtain ⟨rfl, rfl, rfl, rfl⟩ := nx_inj h
  obtain ⟨y1, r1, rfl, hy1, hS1⟩ := sr_d hS'
  obtain ⟨x1, r2, rfl, hx1, hS2⟩ := sr_d hS1
  refine lv_ddiv_any hd0 lw_bits hx hb hdec (fun z d1 hal hd1 => ?_)
  exact kk d1 ls _ H locs hd1 ⟨lr, ws, hl, hT, ⟨⟨z, rfl, fp_op (f := FP.ddiv) fp_div1 fp_div2 hx1 hy1 hal⟩, hS2⟩, hW, hSS, hpre⟩

theorem st_dcmp {op : CmpOp} (C : am_Cx p l R s m args meth c own cc nL ini D cT A) (hdec : decode cc pc = .ok (.dcmp op, 1)) (hs : am_step xs (.dcmp op) fa fb fc v pc la st M = some (.inl (pc', la', st', M'))) (hP : am_Pt D cT b A nL L0 s.heap la st M ls sr H locs) (hd0 : s.drawn.sameBut d0 lw_cs) (kk : am_KK p l e R s m args below meth c Q nL D cT b A L0 la' st' M' pc' kc0 ks0) :
    W p l e R (s.setDrawn d0) m args below meth c H locs (M.2.1 - kc0) (M.2.2.1 - ks0) Q (F0 m pc ls sr) := by
  obtain ⟨hx, hb, hml, hown, hts, hlk, hK, hZ, hA, hini, hRf, hRl, hst⟩ := C
  obtain ⟨lr, ws, hl, hT, hS', hW, hSS, hpre⟩ := hP
  obtain ⟨x, y, r, rfl, h⟩ := d2_inv hs
  obtain ⟨rfl, rfl, rfl, rfl⟩ := nx_inj h
  obtain ⟨y1, r1, rfl, hy1, hS1⟩ := sr_d hS'
  obtain ⟨x1, r2, rfl, hx1, hS2⟩ := sr_d hS1
  refine lv_dcmp hx hb hdec ?_
  rw [fp_cmp hx1 hy1]
  exact kk d0 ls _ H locs hd0 ⟨lr, ws, hl, hT, ⟨rfl, hS2⟩, hW, hSS, hpre⟩

theorem st_dup (C : am_Cx p l R s m args meth c own cc nL ini D cT A) (hdec : decode cc pc = .ok (.dup, 1)) (hs : am_step xs (.dup) fa fb fc v pc la st M = some (.inl (pc', la', st', M'))) (hP : am_Pt D cT b A nL L0 s.heap la st M ls sr H locs) (hd0 : s.drawn.sameBut d0 lw_cs) (kk : am_KK p l e R s m args below meth c Q nL D cT b A L0 la' st' M' pc' kc0 ks0) :
    W p l e R (s.setDrawn d0) m args below meth c H locs (M.2.1 - kc0) (M.2.2.1 - ks0) Q (F0 m pc ls sr) := by
  obtain ⟨hx, hb, hml, hown, hts, hlk, hK, hZ, hA, hini, hRf, hRl, hst⟩ := C
  obtain ⟨lr, ws, hl, hT, hS', hW, hSS, hpre⟩ := hP
  have hs : am_dup st (pc + 1) la M = some (.inl (pc', la', st', M')) := hs
  unfold am_dup at hs
  split at hs
  · split at hs
    · rename_i hc
      obtain ⟨rfl, rfl, rfl, rfl⟩ := nx_inj hs
      obtain ⟨w1, r1, rfl, h1, hS1⟩ := sr_v hS'
      refine lv_dup hx hb hdec (h1.cat.trans hc) ?_
      exact kk d0 ls _ H locs hd0 ⟨lr, ws, hl, hT, ⟨h1, h1, hS1⟩, hW, hSS, hpre⟩
    · cases hs
  · cases hs

theorem st_dup2 (C : am_Cx p l R s m args meth c own cc nL ini D cT A) (hdec : decode cc pc = .ok (.dup2, 1)) (hs : am_step xs (.dup2) fa fb fc v pc la st M = some (.inl (pc', la', st', M'))) (hP : am_Pt D cT b A nL L0 s.heap la st M ls sr H locs) (hd0 : s.drawn.sameBut d0 lw_cs) (kk : am_KK p l e R s m args below meth c Q nL D cT b A L0 la' st' M' pc' kc0 ks0) :
    W p l e R (s.setDrawn d0) m args below meth c H locs (M.2.1 - kc0) (M.2.2.1 - ks0) Q (F0 m pc ls sr) := by
  obtain ⟨hx, hb, hml, hown, hts, hlk, hK, hZ, hA, hini, hRf, hRl, hst⟩ := C
  obtain ⟨lr, ws, hl, hT, hS', hW, hSS, hpre⟩ := hP
  have hs : am_dup2 st (pc + 1) la M = some (.inl (pc', la', st', M')) := hs
  unfold am_dup2 at hs
  split at hs
  · split at hs
    · rename_i hc
      obtain ⟨rfl, rfl, rfl, rfl⟩ := nx_inj hs
      obtain ⟨w1, r1, rfl, h1, hS1⟩ := sr_v hS'
      obtain ⟨w2, r2, rfl, h2, hS2⟩ := sr_v hS1
      refine lv_dup2_11 hx hb hdec (h1.cat.trans hc.1) (h2.cat.trans hc.2) ?_
      exact kk d0 ls _ H locs hd0 ⟨lr, ws, hl, hT, ⟨h1, h2, h1, h2, hS2⟩, hW, hSS, hpre⟩
    · cases hs
  · cases hs

theorem st_if_eq {off : Int} (C : am_Cx p l R s m args meth c own cc nL ini D cT A) (hck : am_ck1 own nL ini (.ifCond .eq off) fa fb fc w w2 v pc = true) (hdec : decode cc pc = .ok (.ifCond .eq off, 3)) (hs : am_step xs (.ifCond .eq off) fa fb fc v pc la st M = some (.inl (pc', la', st', M'))) (hP : am_Pt D cT b A nL L0 s.heap la st M ls sr H locs) (hd0 : s.drawn.sameBut d0 lw_cs) (kk : am_KK p l e R s m args below meth c Q nL D cT b A L0 la' st' M' pc' kc0 ks0) :
    W p l e R (s.setDrawn d0) m args below meth c H locs (M.2.1 - kc0) (M.2.2.1 - ks0) Q (F0 m pc ls sr) := by
  obtain ⟨hx, hb, hml, hown, hts, hlk, hK, hZ, hA, hini, hRf, hRl, hst⟩ := C
  obtain ⟨lr, ws, hl, hT, hS', hW, hSS, hpre⟩ := hP
  obtain ⟨x, r, rfl, h⟩ := i1_inv hs
  obtain ⟨rfl, rfl, rfl, rfl⟩ := nx_inj h
  obtain ⟨r1, rfl, hS1⟩ := sr_i hS'
  have k1 := kk d0 ls _ H locs hd0 ⟨lr, ws, hl, hT, hS1, hW, hSS, hpre⟩
  refine lv_if_eq (tgt := fa) hx hb hdec (of_decide_eq_true hck) (fun h2 => ?_) (fun h2 => ?_)
  · rw [if_pos h2] at k1; exact k1
  · rw [if_neg h2] at k1; exact k1

theorem st_if_ne {off : Int} (C : am_Cx p l R s m args meth c own cc nL ini D cT A) (hck : am_ck1 own nL ini (.ifCond .ne off) fa fb fc w w2 v pc = true) (hdec : decode cc pc = .ok (.ifCond .ne off, 3)) (hs : am_step xs (.ifCond .ne off) fa fb fc v pc la st M = some (.inl (pc', la', st', M'))) (hP : am_Pt D cT b A nL L0 s.heap la st M ls sr H locs) (hd0 : s.drawn.sameBut d0 lw_cs) (kk : am_KK p l e R s m args below meth c Q nL D cT b A L0 la' st' M' pc' kc0 ks0) :
    W p l e R (s.setDrawn d0) m args below meth c H locs (M.2.1 - kc0) (M.2.2.1 - ks0) Q (F0 m pc ls sr) := by
  obtain ⟨hx, hb, hml, hown, hts, hlk, hK, hZ, hA, hini, hRf, hRl, hst⟩ := C
  obtain ⟨lr, ws, hl, hT, hS', hW, hSS, hpre⟩ := hP
  obtain ⟨x, r, rfl, h⟩ := i1_inv hs
  obtain ⟨rfl, rfl, rfl, rfl⟩ := nx_inj h
  obtain ⟨r1, rfl, hS1⟩ := sr_i hS'
  have k1 := kk d0 ls _ H locs hd0 ⟨lr, ws, hl, hT, hS1, hW, hSS, hpre⟩
  refine lv_if_ne (tgt := fa) hx hb hdec (of_decide_eq_true hck) (fun h2 => ?_) (fun h2 => ?_)
  · rw [if_pos h2] at k1; exact k1
  · rw [if_neg (fun h3 => h3 h2)] at k1; exact k1

theorem st_if_lt {off : Int} (C : am_Cx p l R s m args meth c own cc nL ini D cT A) (hck : am_ck1 own nL ini (.ifCond .lt off) fa fb fc w w2 v pc = true) (hdec : decode cc pc = .ok (.ifCond .lt off, 3)) (hs : am_step xs (.ifCond .lt off) fa fb fc v pc la st M = some (.inl (pc', la', st', M'))) (hP : am_Pt D cT b A nL L0 s.heap la st M ls sr H locs) (hd0 : s.drawn.sameBut d0 lw_cs) (kk : am_KK p l e R s m args below meth c Q nL D cT b A L0 la' st' M' pc' kc0 ks0) :
    W p l e R (s.setDrawn d0) m args below meth c H locs (M.2.1 - kc0) (M.2.2.1 - ks0) Q (F0 m pc ls sr) := by
  obtain ⟨hx, hb, hml, hown, hts, hlk, hK, hZ, hA, hini, hRf, hRl, hst⟩ := C
  obtain ⟨lr, ws, hl, hT, hS', hW, hSS, hpre⟩ := hP
  obtain ⟨x, r, rfl, h⟩ := i1_inv hs
  obtain ⟨rfl, rfl, rfl, rfl⟩ := nx_inj h
  obtain ⟨r1, rfl, hS1⟩ := sr_i hS'
  have k1 := kk d0 ls _ H locs hd0 ⟨lr, ws, hl, hT, hS1, hW, hSS, hpre⟩
  refine lv_if_lt (tgt := fa) hx hb hdec (of_decide_eq_true hck) (fun h2 => ?_) (fun h2 => ?_)
  · rw [if_pos h2] at k1; exact k1
  · rw [if_neg h2] at k1; exact k1

theorem st_if_ge {off : Int} (C : am_Cx p l R s m args meth c own cc nL ini D cT A) (hck : am_ck1 own nL ini (.ifCond .ge off) fa fb fc w w2 v pc = true) (hdec : decode cc pc = .ok (.ifCond .ge off, 3)) (hs : am_step xs (.ifCond .ge off) fa fb fc v pc la st M = some (.inl (pc', la', st', M'))) (hP : am_Pt D cT b A nL L0 s.heap la st M ls sr H locs) (hd0 : s.drawn.sameBut d0 lw_cs) (kk : am_KK p l e R s m args below meth c Q nL D cT b A L0 la' st' M' pc' kc0 ks0) :
    W p l e R (s.setDrawn d0) m args below meth c H locs (M.2.1 - kc0) (M.2.2.1 - ks0) Q (F0 m pc ls sr) := by
  obtain ⟨hx, hb, hml, hown, hts, hlk, hK, hZ, hA, hini, hRf, hRl, hst⟩ := C
  obtain ⟨lr, ws, hl, hT, hS', hW, hSS, hpre⟩ := hP
  obtain ⟨x, r, rfl, h⟩ := i1_inv hs
  obtain ⟨rfl, rfl, rfl, rfl⟩ := nx_inj h
  obtain ⟨r1, rfl, hS1⟩ := sr_i hS'
  have k1 := kk d0 ls _ H locs hd0 ⟨lr, ws, hl, hT, hS1, hW, hSS, hpre⟩
  refine lv_if_ge (tgt := fa) hx hb hdec (of_decide_eq_true hck) (fun h2 => ?_) (fun h2 => ?_)
  · rw [if_pos h2] at k1; exact k1
  · rw [if_neg h2] at k1; exact k1

theorem st_if_gt {off : Int} (C : am_Cx p l R s m args meth c own cc nL ini D cT A) (hck : am_ck1 own nL ini (.ifCond .gt off) fa fb fc w w2 v pc = true) (hdec : decode cc pc = .ok (.ifCond .gt off, 3)) (hs : am_step xs (.ifCond .gt off) fa fb fc v pc la st M = some (.inl (pc', la', st', M'))) (hP : am_Pt D cT b A nL L0 s.heap la st M ls sr H locs) (hd0 : s.drawn.sameBut d0 lw_cs) (kk : am_KK p l e R s m args below meth c Q nL D cT b A L0 la' st' M' pc' kc0 ks0) :
    W p l e R (s.setDrawn d0) m args below meth c H locs (M.2.1 - kc0) (M.2.2.1 - ks0) Q (F0 m pc ls sr) := by
  obtain ⟨hx, hb, hml, hown, hts, hlk, hK, hZ, hA, hini, hRf, hRl, hst⟩ := C
  obtain ⟨lr, ws, hl, hT, hS', hW, hSS, hpre⟩ := hP
  obtain ⟨x, r, rfl, h⟩ := i1_inv hs
  obtain ⟨rfl, rfl, rfl, rfl⟩ := nx_inj h
  obtain ⟨r1, rfl, hS1⟩ := sr_i hS'
  have k1 := kk d0 ls _ H locs hd0 ⟨lr, ws, hl, hT, hS1, hW, hSS, hpre⟩
  refine lv_if_gt (tgt := fa) hx hb hdec (of_decide_eq_true hck) (fun h2 => ?_) (fun h2 => ?_)
  · rw [if_pos h2] at k1; exact k1
  · rw [if_neg h2] at k1; exact k1

theorem st_if_le {off : Int} (C : am_Cx p l R s m args meth c own cc nL ini D cT A) (hck : am_ck1 own nL ini (.ifCond .le off) fa fb fc w w2 v pc = true) (hdec : decode cc pc = .ok (.ifCond .le off, 3)) (hs : am_step xs (.ifCond .le off) fa fb fc v pc la st M = some (.inl (pc', la', st', M'))) (hP : am_Pt D cT b A nL L0 s.heap la st M ls sr H locs) (hd0 : s.drawn.sameBut d0 lw_cs) (kk : am_KK p l e R s m args below meth c Q nL D cT b A L0 la' st' M' pc' kc0 ks0) :
    W p l e R (s.setDrawn d0) m args below meth c H locs (M.2.1 - kc0) (M.2.2.1 - ks0) Q (F0 m pc ls sr) := by
  obtain ⟨hx, hb, hml, hown, hts, hlk, hK, hZ, hA, hini, hRf, hRl, hst⟩ := C
  obtain ⟨lr, ws, hl, hT, hS', hW, hSS, hpre⟩ := hP
  obtain ⟨x, r, rfl, h⟩ := i1_inv hs
  obtain ⟨rfl, rfl, rfl, rfl⟩ := nx_inj h
  obtain ⟨r1, rfl, hS1⟩ := sr_i hS'
  have k1 := kk d0 ls _ H locs hd0 ⟨lr, ws, hl, hT, hS1, hW, hSS, hpre⟩
  refine lv_if_le (tgt := fa) hx hb hdec (of_decide_eq_true hck) (fun h2 => ?_) (fun h2 => ?_)
  · rw [if_pos h2] at k1; exact k1
  · rw [if_neg h2] at k1; exact k1

theorem st_icmp_eq {off : Int} (C : am_Cx p l R s m args meth c own cc nL ini D cT A) (hck : am_ck1 own nL ini (.if_icmp .eq off) fa fb fc w w2 v pc = true) (hdec : decode cc pc = .ok (.if_icmp .eq off, 3)) (hs : am_step xs (.if_icmp .eq off) fa fb fc v pc la st M = some (.inl (pc', la', st', M'))) (hP : am_Pt D cT b A nL L0 s.heap la st M ls sr H locs) (hd0 : s.drawn.sameBut d0 lw_cs) (kk : am_KK p l e R s m args below meth c Q nL D cT b A L0 la' st' M' pc' kc0 ks0) :
    W p l e R (s.setDrawn d0) m args below meth c H locs (M.2.1 - kc0) (M.2.2.1 - ks0) Q (F0 m pc ls sr) := by
  obtain ⟨hx, hb, hml, hown, hts, hlk, hK, hZ, hA, hini, hRf, hRl, hst⟩ := C
  obtain ⟨lr, ws, hl, hT, hS', hW, hSS, hpre⟩ := hP
  obtain ⟨x, y, r, rfl, h⟩ := i2_inv hs
  obtain ⟨rfl, rfl, rfl, rfl⟩ := nx_inj h
  obtain ⟨r1, rfl, hS1⟩ := sr_i hS'
  obtain ⟨r2, rfl, hS2⟩ := sr_i hS1
  have k1 := kk d0 ls _ H locs hd0 ⟨lr, ws, hl, hT, hS2, hW, hSS, hpre⟩
  refine lv_icmp_eq (tgt := fa) hx hb hdec (of_decide_eq_true hck) (fun h2 => ?_) (fun h2 => ?_)
  · rw [if_pos h2] at k1; exact k1
  · rw [if_neg h2] at k1; exact k1

theorem st_icmp_ne {off : Int} (C : am_Cx p l R s m args meth c own cc nL ini D cT A) (hck : am_ck1 own nL ini (.if_icmp .ne off) fa fb fc w w2 v pc = true) (hdec : decode cc pc = .ok (.if_icmp .ne off, 3)) (hs : am_step xs (.if_icmp .ne off) fa fb fc v pc la st M = some (.inl (pc', la', st', M'))) (hP : am_Pt D cT b A nL L0 s.heap la st M ls sr H locs) (hd0 : s.drawn.sameBut d0 lw_cs) (kk : am_KK p l e R s m args below meth c Q nL D cT b A L0 la' st' M' pc' kc0 ks0) :
    W p l e R (s.setDrawn d0) m args below meth c H locs (M.2.1 - kc0) (M.2.2.1 - ks0) Q (F0 m pc ls sr) := by
  obtain ⟨hx, hb, hml, hown, hts, hlk, hK, hZ, hA, hini, hRf, hRl, hst⟩ := C
  obtain ⟨lr, ws, hl, hT, hS', hW, hSS, hpre⟩ := hP
  obtain ⟨x, y, r, rfl, h⟩ := i2_inv hs
  obtain ⟨rfl, rfl, rfl, rfl⟩ := nx_inj h
  obtain ⟨r1, rfl, hS1⟩ := sr_i hS'
  obtain ⟨r2, rfl, hS2⟩ := sr_i hS1
  have k1 := kk d0 ls _ H locs hd0 ⟨lr, ws, hl, hT, hS2, hW, hSS, hpre⟩
  refine lv_icmp_ne (tgt := fa) hx hb hdec (of_decide_eq_true hck) (fun h2 => ?_) (fun h2 => ?_)
  · rw [if_pos h2] at k1; exact k1
  · rw [if_neg (fun h3 => h3 h2)] at k1; exact k1

theorem st_icmp_lt {off : Int} (C : am_Cx p l R s m args meth c own cc nL ini D cT A) (hck : am_ck1 own nL ini (.if_icmp .lt off) fa fb fc w w2 v pc = true) (hdec : decode cc pc = .ok (.if_icmp .lt off, 3)) (hs : am_step xs (.if_icmp .lt off) fa fb fc v pc la st M = some (.inl (pc', la', st', M'))) (hP : am_Pt D cT b A nL L0 s.heap la st M ls sr H locs) (hd0 : s.drawn.sameBut d0 lw_cs) (kk : am_KK p l e R s m args below meth c Q nL D cT b A L0 la' st' M' pc' kc0 ks0) :
    W p l e R (s.setDrawn d0) m args below meth c H locs (M.2.1 - kc0) (M.2.2.1 - ks0) Q (F0 m pc ls sr) := by
  obtain ⟨hx, hb, hml, hown, hts, hlk, hK, hZ, hA, hini, hRf, hRl, hst⟩ := C
  obtain ⟨lr, ws, hl, hT, hS', hW, hSS, hpre⟩ := hP
  obtain ⟨x, y, r, rfl, h⟩ := i2_inv hs
  obtain ⟨rfl, rfl, rfl, rfl⟩ := nx_inj h
  obtain ⟨r1, rfl, hS1⟩ := sr_i hS'
  obtain ⟨r2, rfl, hS2⟩ := sr_i hS1
  have k1 := kk d0 ls _ H locs hd0 ⟨lr, ws, hl, hT, hS2, hW, hSS, hpre⟩
  refine lv_icmp_lt (tgt := fa) hx hb hdec (of_decide_eq_true hck) (fun h2 => ?_) (fun h2 => ?_)
  · rw [if_pos h2] at k1; exact k1
  · rw [if_neg h2] at k1; exact k1

theorem st_icmp_ge {off : Int} (C : am_Cx p l R s m args meth c own cc nL ini D cT A) (hck : am_ck1 own nL ini (.if_icmp .ge off) fa fb fc w w2 v pc = true) (hdec : decode cc pc = .ok (.if_icmp .ge off, 3)) (hs : am_step xs (.if_icmp .ge off) fa fb fc v pc la st M = some (.inl (pc', la', st', M'))) (hP : am_Pt D cT b A nL L0 s.heap la st M ls sr H locs) (hd0 : s.drawn.sameBut d0 lw_cs) (kk : am_KK p l e R s m args below meth c Q nL D cT b A L0 la' st' M' pc' kc0 ks0) :
    W p l e R (s.setDrawn d0) m args below meth c H locs (M.2.1 - kc0) (M.2.2.1 - ks0) Q (F0 m pc ls sr) := by
  obtain ⟨hx, hb, hml, hown, hts, hlk, hK, hZ, hA, hini, hRf, hRl, hst⟩ := C
  obtain ⟨lr, ws, hl, hT, hS', hW, hSS, hpre⟩ := hP
  obtain ⟨x, y, r, rfl, h⟩ := i2_inv hs
  obtain ⟨rfl, rfl, rfl, rfl⟩ := nx_inj h
  obtain ⟨r1, rfl, hS1⟩ := sr_i hS'
  obtain ⟨r2, rfl, hS2⟩ := sr_i hS1
  have k1 := kk d0 ls _ H locs hd0 ⟨lr, ws, hl, hT, hS2, hW, hSS, hpre⟩
  refine lv_icmp_ge (tgt := fa) hx hb hdec (of_decide_eq_true hck) (fun h2 => ?_) (fun h2 => ?_)
  · rw [if_pos h2] at k1; exact k1
  · rw [if_neg h2] at k1; exact k1

theorem st_icmp_gt {off : Int} (C : am_Cx p l R s m args meth c own cc nL ini D cT A) (hck : am_ck1 own nL ini (.if_icmp .gt off) fa fb fc w w2 v pc = true) (hdec : decode cc pc = .ok (.if_icmp .gt off, 3)) (hs : am_step xs (.if_icmp .gt off) fa fb fc v pc la st M = some (.inl (pc', la', st', M'))) (hP : am_Pt D cT b A nL L0 s.heap la st M ls sr H locs) (hd0 : s.drawn.sameBut d0 lw_cs) (kk : am_KK p l e R s m args below meth c Q nL D cT b A L0 la' st' M' pc' kc0 ks0) :
    W p l e R (s.setDrawn d0) m args below meth c H locs (M.2.1 - kc0) (M.2.2.1 - ks0) Q (F0 m pc ls sr) := by
  obtain ⟨hx, hb, hml, hown, hts, hlk, hK, hZ, hA, hini, hRf, hRl, hst⟩ := C
  obtain ⟨lr, ws, hl, hT, hS', hW, hSS, hpre⟩ := hP
  obtain ⟨x, y, r, rfl, h⟩ := i2_inv hs
  obtain ⟨rfl, rfl, rfl, rfl⟩ := nx_inj h
  obtain ⟨r1, rfl, hS1⟩ := sr_i hS'
  obtain ⟨r2, rfl, hS2⟩ := sr_i hS1
  have k1 := kk d0 ls _ H locs hd0 ⟨lr, ws, hl, hT, hS2, hW, hSS, hpre⟩
  refine lv_icmp_gt (tgt := fa) hx hb hdec (of_decide_eq_true hck) (fun h2 => ?_) (fun h2 => ?_)
  · rw [if_pos h2] at k1; exact k1
  · rw [if_neg h2] at k1; exact k1

theorem st_icmp_le {off : Int} (C : am_Cx p l R s m args meth c own cc nL ini D cT A) (hck : am_ck1 own nL ini (.if_icmp .le off) fa fb fc w w2 v pc = true) (hdec : decode cc pc = .ok (.if_icmp .le off, 3)) (hs : am_step xs (.if_icmp .le off) fa fb fc v pc la st M = some (.inl (pc', la', st', M'))) (hP : am_Pt D cT b A nL L0 s.heap la st M ls sr H locs) (hd0 : s.drawn.sameBut d0 lw_cs) (kk : am_KK p l e R s m args below meth c Q nL D cT b A L0 la' st' M' pc' kc0 ks0) :
    W p l e R (s.setDrawn d0) m args below meth c H locs (M.2.1 - kc0) (M.2.2.1 - ks0) Q (F0 m pc ls sr) := by
  obtain ⟨hx, hb, hml, hown, hts, hlk, hK, hZ, hA, hini, hRf, hRl, hst⟩ := C
  obtain ⟨lr, ws, hl, hT, hS', hW, hSS, hpre⟩ := hP
  obtain ⟨x, y, r, rfl, h⟩ := i2_inv hs
  obtain ⟨rfl, rfl, rfl, rfl⟩ := nx_inj h
  obtain ⟨r1, rfl, hS1⟩ := sr_i hS'
  obtain ⟨r2, rfl, hS2⟩ := sr_i hS1
  have k1 := kk d0 ls _ H locs hd0 ⟨lr, ws, hl, hT, hS2, hW, hSS, hpre⟩
  refine lv_icmp_le (tgt := fa) hx hb hdec (of_decide_eq_true hck) (fun h2 => ?_) (fun h2 => ?_)
  · rw [if_pos h2] at k1; exact k1
  · rw [if_neg h2] at k1; exact k1

theorem st_goto {off : Int} (C : am_Cx p l R s m args meth c own cc nL ini D cT A) (hck : am_ck1 own nL ini (.goto off) fa fb fc w w2 v pc = true) (hdec : decode cc pc = .ok (.goto off, 3)) (hs : am_step xs (.goto off) fa fb fc v pc la st M = some (.inl (pc', la', st', M'))) (hP : am_Pt D cT b A nL L0 s.heap la st M ls sr H locs) (hd0 : s.drawn.sameBut d0 lw_cs) (kk : am_KK p l e R s m args below meth c Q nL D cT b A L0 la' st' M' pc' kc0 ks0) :
    W p l e R (s.setDrawn d0) m args below meth c H locs (M.2.1 - kc0) (M.2.2.1 - ks0) Q (F0 m pc ls sr) := by
  obtain ⟨hx, hb, hml, hown, hts, hlk, hK, hZ, hA, hini, hRf, hRl, hst⟩ := C
  obtain ⟨lr, ws, hl, hT, hS', hW, hSS, hpre⟩ := hP
  obtain ⟨rfl, rfl, rfl, rfl⟩ := nx_inj hs
  refine lv_goto hx hb hdec (of_decide_eq_true hck) ?_
  exact kk d0 ls _ H locs hd0 ⟨lr, ws, hl, hT, hS', hW, hSS, hpre⟩

theorem st_ifnull {off : Int} (C : am_Cx p l R s m args meth c own cc nL ini D cT A) (hck : am_ck1 own nL ini (.ifnull off) fa fb fc w w2 v pc = true) (hdec : decode cc pc = .ok (.ifnull off, 3)) (hs : am_step xs (.ifnull off) fa fb fc v pc la st M = some (.inl (pc', la', st', M'))) (hP : am_Pt D cT b A nL L0 s.heap la st M ls sr H locs) (hd0 : s.drawn.sameBut d0 lw_cs) (kk : am_KK p l e R s m args below meth c Q nL D cT b A L0 la' st' M' pc' kc0 ks0) :
    W p l e R (s.setDrawn d0) m args below meth c H locs (M.2.1 - kc0) (M.2.2.1 - ks0) Q (F0 m pc ls sr) := by
  obtain ⟨hx, hb, hml, hown, hts, hlk, hK, hZ, hA, hini, hRf, hRl, hst⟩ := C
  obtain ⟨lr, ws, hl, hT, hS', hW, hSS, hpre⟩ := hP
  have hs : am_nul st fa (pc + 3) la M = some (.inl (pc', la', st', M')) := hs
  unfold am_nul at hs
  split at hs
  · obtain ⟨rfl, rfl, rfl, rfl⟩ := nx_inj hs
    obtain ⟨q, r1, rfl, hq, hS1⟩ := sr_a hS'
    refine lv_ifnull hx hb hdec ?_
    exact kk d0 ls _ H locs hd0 ⟨lr, ws, hl, hT, hS1, hW, hSS, hpre⟩
  · obtain ⟨rfl, rfl, rfl, rfl⟩ := nx_inj hs
    obtain ⟨r1, rfl, hS1⟩ := sr_n hS'
    refine lv_ifnullN hx hb hdec (of_decide_eq_true hck) ?_
    exact kk d0 ls _ H locs hd0 ⟨lr, ws, hl, hT, hS1, hW, hSS, hpre⟩
  · cases hs

theorem st_ifnonnull {off : Int} (C : am_Cx p l R s m args meth c own cc nL ini D cT A) (hck : am_ck1 own nL ini (.ifnonnull off) fa fb fc w w2 v pc = true) (hdec : decode cc pc = .ok (.ifnonnull off, 3)) (hs : am_step xs (.ifnonnull off) fa fb fc v pc la st M = some (.inl (pc', la', st', M'))) (hP : am_Pt D cT b A nL L0 s.heap la st M ls sr H locs) (hd0 : s.drawn.sameBut d0 lw_cs) (kk : am_KK p l e R s m args below meth c Q nL D cT b A L0 la' st' M' pc' kc0 ks0) :
    W p l e R (s.setDrawn d0) m args below meth c H locs (M.2.1 - kc0) (M.2.2.1 - ks0) Q (F0 m pc ls sr) := by
  obtain ⟨hx, hb, hml, hown, hts, hlk, hK, hZ, hA, hini, hRf, hRl, hst⟩ := C
  obtain ⟨lr, ws, hl, hT, hS', hW, hSS, hpre⟩ := hP
  have hs : am_nul st (pc + 3) fa la M = some (.inl (pc', la', st', M')) := hs
  unfold am_nul at hs
  split at hs
  · obtain ⟨rfl, rfl, rfl, rfl⟩ := nx_inj hs
    obtain ⟨q, r1, rfl, hq, hS1⟩ := sr_a hS'
    refine lv_ifnonnull hx hb hdec (of_decide_eq_true hck) ?_
    exact kk d0 ls _ H locs hd0 ⟨lr, ws, hl, hT, hS1, hW, hSS, hpre⟩
  · obtain ⟨rfl, rfl, rfl, rfl⟩ := nx_inj hs
    obtain ⟨r1, rfl, hS1⟩ := sr_n hS'
    refine lv_ifnonnullN hx hb hdec ?_
    exact kk d0 ls _ H locs hd0 ⟨lr, ws, hl, hT, hS1, hW, hSS, hpre⟩
  · cases hs

theorem sw_inv {off : Int} {r : List Value} (h : am_sw pc off la r M = some (.inl (pc', la', st', M'))) : (pc : Int) + off = (pc' : Int) ∧ la = la' ∧ r = st' ∧ M = M' := by
  unfold am_sw at h
  split at h
  · obtain ⟨rfl, rfl, rfl, rfl⟩ := nx_inj h
    exact ⟨by omega, rfl, rfl, rfl⟩
  · cases h
theorem st_switch {dflt lo hi : Int} {offs : Array Int} {len : Nat} (C : am_Cx p l R s m args meth c own cc nL ini D cT A) (hdec : decode cc pc = .ok (.tableswitch dflt lo hi offs, len)) (hs : am_step xs (.tableswitch dflt lo hi offs) fa fb fc v pc la st M = some (.inl (pc', la', st', M'))) (hP : am_Pt D cT b A nL L0 s.heap la st M ls sr H locs) (hd0 : s.drawn.sameBut d0 lw_cs) (kk : am_KK p l e R s m args below meth c Q nL D cT b A L0 la' st' M' pc' kc0 ks0) :
    W p l e R (s.setDrawn d0) m args below meth c H locs (M.2.1 - kc0) (M.2.2.1 - ks0) Q (F0 m pc ls sr) := by
  obtain ⟨hx, hb, hml, hown, hts, hlk, hK, hZ, hA, hini, hRf, hRl, hst⟩ := C
  obtain ⟨lr, ws, hl, hT, hS', hW, hSS, hpre⟩ := hP
  obtain ⟨x, r, rfl, h⟩ := i1_inv hs
  obtain ⟨r1, rfl, hS1⟩ := sr_i hS'
  split at h
  · rename_i h0
    obtain ⟨ht, rfl, rfl, rfl⟩ := sw_inv h
    refine lv_tableOut hx hb hdec h0 ht ?_
    exact kk d0 ls _ H locs hd0 ⟨lr, ws, hl, hT, hS1, hW, hSS, hpre⟩
  · rename_i h0
    split at h
    · rename_i off ho
      obtain ⟨ht, rfl, rfl, rfl⟩ := sw_inv h
      refine lv_tableIn hx hb hdec (fun z => h0 (Or.inl z)) (fun z => h0 (Or.inr z)) ho ht ?_
      exact kk d0 ls _ H locs hd0 ⟨lr, ws, hl, hT, hS1, hW, hSS, hpre⟩
    · cases h

theorem st_getfield {idx : Nat} (C : am_Cx p l R s m args meth c own cc nL ini D cT A) (hck : am_ck1 own nL ini (.getfield idx) fa fb fc w w2 v pc = true) (hdec : decode cc pc = .ok (.getfield idx, 3)) (hs : am_step xs (.getfield idx) fa fb fc v pc la st M = some (.inl (pc', la', st', M'))) (hP : am_Pt D cT b A nL L0 s.heap la st M ls sr H locs) (hd0 : s.drawn.sameBut d0 lw_cs) (kk : am_KK p l e R s m args below meth c Q nL D cT b A L0 la' st' M' pc' kc0 ks0) :
    W p l e R (s.setDrawn d0) m args below meth c H locs (M.2.1 - kc0) (M.2.2.1 - ks0) Q (F0 m pc ls sr) := by
  obtain ⟨hx, hb, hml, hown, hts, hlk, hK, hZ, hA, hini, hRf, hRl, hst⟩ := C
  obtain ⟨lr, ws, hl, hT, hS', hW, hSS, hpre⟩ := hP
  obtain ⟨o, r, rfl, h⟩ := a1_inv hs
  obtain ⟨w1, hg, h⟩ := Option.bind_eq_some_iff.mp h
  obtain ⟨rfl, rfl, rfl, rfl⟩ := nx_inj h
  obtain ⟨fs, he, hf⟩ := gf_inv hg
  obtain ⟨q, r1, rfl, hq, hS1⟩ := sr_a hS'
  obtain ⟨e1, hwe, hE⟩ := hW.get hq
  rw [he] at hE
  obtain ⟨gs, rfl, -, hgs⟩ := hE
  obtain ⟨rv, hrv, hv⟩ := hgs.get hf
  cases hc : am_cls[fa]? with
  | none => simp [am_ck1, hc] at hck
  | some cl =>
    simp only [am_ck1, hc, Bool.and_eq_true, decide_eq_true_eq] at hck
    refine va_get (D := D) hx hb (dr_words hts d0) (am_facts fa cl hc).1 hown hK.1 hW.1 o hwe hc fb hck.1 (dr_words hts d0 _ (am_hw_in hck.2)) (fun _ h => h) hrv hdec ?_
    exact kk d0 ls _ H locs hd0 ⟨lr, ws, hl, hT, ⟨hv, hS1⟩, hW, hSS, hpre⟩

theorem st_putfield {idx : Nat} (C : am_Cx p l R s m args meth c own cc nL ini D cT A) (hck : am_ck1 own nL ini (.putfield idx) fa fb fc w w2 v pc = true) (hdec : decode cc pc = .ok (.putfield idx, 3)) (hs : am_step xs (.putfield idx) fa fb fc v pc la st M = some (.inl (pc', la', st', M'))) (hP : am_Pt D cT b A nL L0 s.heap la st M ls sr H locs) (hd0 : s.drawn.sameBut d0 lw_cs) (kk : am_KK p l e R s m args below meth c Q nL D cT b A L0 la' st' M' pc' kc0 ks0) :
    W p l e R (s.setDrawn d0) m args below meth c H locs (M.2.1 - kc0) (M.2.2.1 - ks0) Q (F0 m pc ls sr) := by
  obtain ⟨hx, hb, hml, hown, hts, hlk, hK, hZ, hA, hini, hRf, hRl, hst⟩ := C
  obtain ⟨lr, ws, hl, hT, hS', hW, hSS, hpre⟩ := hP
  obtain ⟨w1, o, r, rfl, hs⟩ := put_inv hs
  obtain ⟨e2, hg, h⟩ := Option.bind_eq_some_iff.mp hs
  obtain ⟨rfl, rfl, rfl, rfl⟩ := nx_inj h
  obtain ⟨fs, he, hlt, hok, rfl⟩ := pf_inv hg
  obtain ⟨rv, r0, rfl, hv, hS0⟩ := sr_v hS'
  obtain ⟨q, r1, rfl, hq, hS1⟩ := sr_a hS0
  obtain ⟨e1, hwe, hE⟩ := hW.get hq
  rw [he] at hE
  obtain ⟨gs, rfl, hci, hgs⟩ := hE
  cases hc : am_cls[fa]? with
  | none => simp [am_ck1, hc] at hck
  | some cl =>
    simp only [am_ck1, hc, Bool.and_eq_true, decide_eq_true_eq, Bool.or_eq_true, Bool.not_eq_true'] at hck
    obtain ⟨⟨⟨hN, hw⟩, htk⟩, hfin⟩ := hck
    obtain ⟨f1, f2, f3, -, -⟩ := am_facts fa cl hc
    obtain ⟨hn, hft⟩ := ok_R hok hv htk
    have hlg : fb < gs.length := by rw [hgs.len]; exact hlt
    have hlink := dr_words hts d0 _ (am_hw_in hw)
    have hlast : ∀ (H1 : Heap) (locs1 : List Loc), va_P D am_cls (ws.set o (q, .inr (fa, gs.set fb rv))) H1 → va_D A (ws.set o (q, .inr (fa, gs.set fb rv))) → va_S A s.heap H1 locs1 →
        W p l e R (s.setDrawn d0) m args below meth c H1 locs1 (M.2.1 - kc0) (M.2.2.1 - ks0) Q (F0 m (pc + 3) ls r1) := by
      intro H1 locs1 hP1 hD1 hS2
      have hW2 := hW.set (x := .inr (fa, fs.set fb w1)) hwe ⟨_, rfl, hci, hgs.set hv⟩ hP1 hD1
      refine kk d0 ls _ H1 locs1 hd0 ⟨lr, _, hl, ?_, ?_, hW2, hS2, ?_⟩
      · rw [am_la_set ws o q _ _ hwe]; exact hT
      · rw [am_la_set ws o q _ _ hwe]; exact hS1
      · rw [am_la_set ws o q _ _ hwe]; exact hpre
    rcases hfin with hnf | ⟨hi, hdc⟩
    · exact va_put (D := D) hx hb (dr_words hts d0) f1 (am_ty fa) f2 f3 hown hK.1 hW.1 hW.2.1 hSS o hwe hc fb hN hlink (fun _ h => h) hnf (f2 fb hN) hn hft hlg hdec hlast
    · by_cases hff : (cl.2.1 fb).2.2.2 = true
      · exact va_putF (D := D) hx hb (dr_words hts d0) f1 (am_ty fa) f2 f3 hown hK.1 hW.1 hW.2.1 hSS o hwe hc fb hN hlink (fun _ h => h) hff (hini hi) hdc (f2 fb hN) hn hft hlg hdec hlast
      · exact va_put (D := D) hx hb (dr_words hts d0) f1 (am_ty fa) f2 f3 hown hK.1 hW.1 hW.2.1 hSS o hwe hc fb hN hlink (fun _ h => h) (by simpa using hff) (f2 fb hN) hn hft hlg hdec hlast

theorem st_arraylength (C : am_Cx p l R s m args meth c own cc nL ini D cT A) (hXs : am_Xs xs b A s) (hdec : decode cc pc = .ok (.arraylength, 1)) (hs : am_step xs (.arraylength) fa fb fc v pc la st M = some (.inl (pc', la', st', M'))) (hP : am_Pt D cT b A nL L0 s.heap la st M ls sr H locs) (hd0 : s.drawn.sameBut d0 lw_cs) (kk : am_KK p l e R s m args below meth c Q nL D cT b A L0 la' st' M' pc' kc0 ks0) :
    W p l e R (s.setDrawn d0) m args below meth c H locs (M.2.1 - kc0) (M.2.2.1 - ks0) Q (F0 m pc ls sr) := by
  obtain ⟨hx, hb, hml, hown, hts, hlk, hK, hZ, hA, hini, hRf, hRl, hst⟩ := C
  obtain ⟨lr, ws, hl, hT, hS', hW, hSS, hpre⟩ := hP
  rcases aln_inv hs with ⟨o, r, rfl, hs⟩ | ⟨x0, r, rfl, hs⟩
  · obtain ⟨n1, hg, h⟩ := Option.bind_eq_some_iff.mp hs
    obtain ⟨rfl, rfl, rfl, rfl⟩ := nx_inj h
    obtain ⟨t, n, f, he, -, rfl⟩ := len_inv hg
    obtain ⟨q, r1, rfl, hq, hS1⟩ := sr_a hS'
    obtain ⟨e1, hwe, hE⟩ := hW.get hq
    rw [he] at hE
    obtain ⟨cA, ty, x, rfl, hct, -⟩ := hE
    refine va_alen (s := s.setDrawn d0) hx hb hK.1 hW.1 o t hwe hct (v := Int32.ofNat n) rfl hdec ?_
    exact kk d0 ls _ H locs hd0 ⟨lr, ws, hl, hT, ⟨rfl, hS1⟩, hW, hSS, hpre⟩
  · obtain ⟨q, hq, h⟩ := Option.bind_eq_some_iff.mp hs
    obtain ⟨rfl, rfl, rfl, rfl⟩ := nx_inj h
    obtain ⟨r1, rfl, hS1⟩ := sr_x hS'
    obtain ⟨h1, h2, h3⟩ := hXs q hq
    refine va_slen (s := s.setDrawn d0) hx hb h1 h2 h3 hSS hdec ?_
    exact kk d0 ls _ H locs hd0 ⟨lr, ws, hl, hT, ⟨rfl, hS1⟩, hW, hSS, hpre⟩

theorem st_iaload (C : am_Cx p l R s m args meth c own cc nL ini D cT A) (hXs : am_Xs xs b A s) (hdec : decode cc pc = .ok (.iaload, 1)) (hs : am_step xs (.iaload) fa fb fc v pc la st M = some (.inl (pc', la', st', M'))) (hP : am_Pt D cT b A nL L0 s.heap la st M ls sr H locs) (hd0 : s.drawn.sameBut d0 lw_cs) (kk : am_KK p l e R s m args below meth c Q nL D cT b A L0 la' st' M' pc' kc0 ks0) :
    W p l e R (s.setDrawn d0) m args below meth c H locs (M.2.1 - kc0) (M.2.2.1 - ks0) Q (F0 m pc ls sr) := by
  obtain ⟨hx, hb, hml, hown, hts, hlk, hK, hZ, hA, hini, hRf, hRl, hst⟩ := C
  obtain ⟨lr, ws, hl, hT, hS', hW, hSS, hpre⟩ := hP
  rcases ial_inv hs with ⟨i, o, r, rfl, hs⟩ | ⟨i, x0, r, rfl, hs⟩
  · obtain ⟨n1, hg, h⟩ := Option.bind_eq_some_iff.mp hs
    obtain ⟨rfl, rfl, rfl, rfl⟩ := nx_inj h
    obtain ⟨n, f, he, hin, rfl⟩ := ai_inv hg
    obtain ⟨r0, rfl, hS0⟩ := sr_i hS'
    obtain ⟨q, r1, rfl, hq, hS1⟩ := sr_a hS0
    obtain ⟨e1, hwe, hE⟩ := hW.get hq
    rw [he] at hE
    obtain ⟨cA, ty, x, rfl, hct, hX⟩ := hE
    cases hX
    have ht := cT_ty hK.2.1 hct
    cases ht
    refine va_iald (s := s.setDrawn d0) hx hb hK.1 hW.1 o 0 hwe hct hin hdec ?_
    exact kk d0 ls _ H locs hd0 ⟨lr, ws, hl, hT, ⟨rfl, hS1⟩, hW, hSS, hpre⟩
  · obtain ⟨q, hq, h⟩ := Option.bind_eq_some_iff.mp hs
    split at h
    · cases h
    · rename_i hin
      obtain ⟨rfl, rfl, rfl, rfl⟩ := nx_inj h
      obtain ⟨r0, rfl, hS0⟩ := sr_i hS'
      obtain ⟨r1, rfl, hS1⟩ := sr_x hS0
      obtain ⟨h1, h2, h3⟩ := hXs q hq
      refine va_sld (s := s.setDrawn d0) hx hb h1 h2 h3 hSS hin hdec ?_
      exact kk d0 ls _ H locs hd0 ⟨lr, ws, hl, hT, ⟨rfl, hS1⟩, hW, hSS, hpre⟩

theorem st_baload (C : am_Cx p l R s m args meth c own cc nL ini D cT A) (hdec : decode cc pc = .ok (.baload, 1)) (hs : am_step xs (.baload) fa fb fc v pc la st M = some (.inl (pc', la', st', M'))) (hP : am_Pt D cT b A nL L0 s.heap la st M ls sr H locs) (hd0 : s.drawn.sameBut d0 lw_cs) (kk : am_KK p l e R s m args below meth c Q nL D cT b A L0 la' st' M' pc' kc0 ks0) :
    W p l e R (s.setDrawn d0) m args below meth c H locs (M.2.1 - kc0) (M.2.2.1 - ks0) Q (F0 m pc ls sr) := by
  obtain ⟨hx, hb, hml, hown, hts, hlk, hK, hZ, hA, hini, hRf, hRl, hst⟩ := C
  obtain ⟨lr, ws, hl, hT, hS', hW, hSS, hpre⟩ := hP
  obtain ⟨i, o, r, rfl, h⟩ := ia_inv hs
  obtain ⟨n1, hg, h⟩ := Option.bind_eq_some_iff.mp h
  obtain ⟨rfl, rfl, rfl, rfl⟩ := nx_inj h
  obtain ⟨n, f, he, hin, rfl⟩ := ai_inv hg
  obtain ⟨r0, rfl, hS0⟩ := sr_i hS'
  obtain ⟨q, r1, rfl, hq, hS1⟩ := sr_a hS0
  obtain ⟨e1, hwe, hE⟩ := hW.get hq
  rw [he] at hE
  obtain ⟨cA, ty, x, rfl, hct, hX⟩ := hE
  cases hX
  have ht := cT_ty hK.2.1 hct
  cases ht
  refine va_zald (s := s.setDrawn d0) hx hb hK.1 hW.1 o 2 hwe hct hin hdec ?_
  exact kk d0 ls _ H locs hd0 ⟨lr, ws, hl, hT, ⟨rfl, hS1⟩, hW, hSS, hpre⟩

theorem st_laload (C : am_Cx p l R s m args meth c own cc nL ini D cT A) (hdec : decode cc pc = .ok (.laload, 1)) (hs : am_step xs (.laload) fa fb fc v pc la st M = some (.inl (pc', la', st', M'))) (hP : am_Pt D cT b A nL L0 s.heap la st M ls sr H locs) (hd0 : s.drawn.sameBut d0 lw_cs) (kk : am_KK p l e R s m args below meth c Q nL D cT b A L0 la' st' M' pc' kc0 ks0) :
    W p l e R (s.setDrawn d0) m args below meth c H locs (M.2.1 - kc0) (M.2.2.1 - ks0) Q (F0 m pc ls sr) := by
  obtain ⟨hx, hb, hml, hown, hts, hlk, hK, hZ, hA, hini, hRf, hRl, hst⟩ := C
  obtain ⟨lr, ws, hl, hT, hS', hW, hSS, hpre⟩ := hP
  obtain ⟨i, o, r, rfl, h⟩ := ia_inv hs
  obtain ⟨n1, hg, h⟩ := Option.bind_eq_some_iff.mp h
  obtain ⟨rfl, rfl, rfl, rfl⟩ := nx_inj h
  obtain ⟨n, f, he, hin, rfl⟩ := aj_inv hg
  obtain ⟨r0, rfl, hS0⟩ := sr_i hS'
  obtain ⟨q, r1, rfl, hq, hS1⟩ := sr_a hS0
  obtain ⟨e1, hwe, hE⟩ := hW.get hq
  rw [he] at hE
  obtain ⟨cA, ty, x, rfl, hct, hX⟩ := hE
  cases hX
  have ht := cT_ty hK.2.1 hct
  cases ht
  refine va_lald (s := s.setDrawn d0) hx hb hK.1 hW.1 o 1 hwe hct hin hdec ?_
  exact kk d0 ls _ H locs hd0 ⟨lr, ws, hl, hT, ⟨rfl, hS1⟩, hW, hSS, hpre⟩

theorem st_daload (C : am_Cx p l R s m args meth c own cc nL ini D cT A) (hdec : decode cc pc = .ok (.daload, 1)) (hs : am_step xs (.daload) fa fb fc v pc la st M = some (.inl (pc', la', st', M'))) (hP : am_Pt D cT b A nL L0 s.heap la st M ls sr H locs) (hd0 : s.drawn.sameBut d0 lw_cs) (kk : am_KK p l e R s m args below meth c Q nL D cT b A L0 la' st' M' pc' kc0 ks0) :
    W p l e R (s.setDrawn d0) m args below meth c H locs (M.2.1 - kc0) (M.2.2.1 - ks0) Q (F0 m pc ls sr) := by
  obtain ⟨hx, hb, hml, hown, hts, hlk, hK, hZ, hA, hini, hRf, hRl, hst⟩ := C
  obtain ⟨lr, ws, hl, hT, hS', hW, hSS, hpre⟩ := hP
  obtain ⟨i, o, r, rfl, h⟩ := ia_inv hs
  obtain ⟨n1, hg, h⟩ := Option.bind_eq_some_iff.mp h
  obtain ⟨rfl, rfl, rfl, rfl⟩ := nx_inj h
  obtain ⟨n, f, he, hin, rfl⟩ := ad_inv hg
  obtain ⟨r0, rfl, hS0⟩ := sr_i hS'
  obtain ⟨q, r1, rfl, hq, hS1⟩ := sr_a hS0
  obtain ⟨e1, hwe, hE⟩ := hW.get hq
  rw [he] at hE
  obtain ⟨cA, ty, x, rfl, hct, g, rfl, hal⟩ := hE
  have ht := cT_ty hK.2.1 hct
  cases ht
  refine va_dald (s := s.setDrawn d0) hx hb hK.1 hW.1 o 3 hwe hct hin hdec ?_
  exact kk d0 ls _ H locs hd0 ⟨lr, ws, hl, hT, ⟨⟨_, rfl, hal _⟩, hS1⟩, hW, hSS, hpre⟩

theorem elt_ty {t : Nat} (h4 : 4 ≤ t) (h6 : t ≤ 6) {ty : FieldType} (ht : am_tys[t]? = some ty) : ∃ q : vw_C, am_cls[am_elt t]? = some q ∧ ty = .object q.1 := by
  rcases (by omega : t = 4 ∨ t = 5 ∨ t = 6) with rfl | rfl | rfl
  · cases ht; exact ⟨(RX6, TX6, 4), rfl, rfl⟩
  · cases ht; exact ⟨(RX4, TX4, 12), rfl, rfl⟩
  · cases ht; exact ⟨(RX3, TX3, 8), rfl, rfl⟩
theorem qr_vr {b : Nat} {L : List Nat} {f g : Option Nat} (h : am_QR L f g) : am_VR b L (va_rf f) (va_rf g) := by
  cases f with
  | none => cases h; rfl
  | some a => obtain ⟨q, h1, rfl⟩ := h; exact ⟨q, h1, rfl⟩
theorem st_aaload (C : am_Cx p l R s m args meth c own cc nL ini D cT A) (hdec : decode cc pc = .ok (.aaload, 1)) (hs : am_step xs (.aaload) fa fb fc v pc la st M = some (.inl (pc', la', st', M'))) (hP : am_Pt D cT b A nL L0 s.heap la st M ls sr H locs) (hd0 : s.drawn.sameBut d0 lw_cs) (kk : am_KK p l e R s m args below meth c Q nL D cT b A L0 la' st' M' pc' kc0 ks0) :
    W p l e R (s.setDrawn d0) m args below meth c H locs (M.2.1 - kc0) (M.2.2.1 - ks0) Q (F0 m pc ls sr) := by
  obtain ⟨hx, hb, hml, hown, hts, hlk, hK, hZ, hA, hini, hRf, hRl, hst⟩ := C
  obtain ⟨lr, ws, hl, hT, hS', hW, hSS, hpre⟩ := hP
  obtain ⟨i, o, r, rfl, h⟩ := ia_inv hs
  obtain ⟨n1, hg, h⟩ := Option.bind_eq_some_iff.mp h
  obtain ⟨rfl, rfl, rfl, rfl⟩ := nx_inj h
  obtain ⟨t, n, f, he, h4, h6, hin, rfl⟩ := aa_inv hg
  obtain ⟨r0, rfl, hS0⟩ := sr_i hS'
  obtain ⟨q, r1, rfl, hq, hS1⟩ := sr_a hS0
  obtain ⟨e1, hwe, hE⟩ := hW.get hq
  rw [he] at hE
  obtain ⟨cA, ty, x, rfl, hct, g, rfl, hal⟩ := hE
  obtain ⟨cl, hcl, rfl⟩ := elt_ty h4 h6 (cT_ty hK.2.1 hct)
  refine va_aldq (s := s.setDrawn d0) hx hb hK.1 hW.1 o t hwe hct hin hdec ?_
  exact kk d0 ls _ H locs hd0 ⟨lr, ws, hl, hT, ⟨qr_vr (hal _), hS1⟩, hW, hSS, hpre⟩

theorem st_iastore (C : am_Cx p l R s m args meth c own cc nL ini D cT A) (hdec : decode cc pc = .ok (.iastore, 1)) (hs : am_step xs (.iastore) fa fb fc v pc la st M = some (.inl (pc', la', st', M'))) (hP : am_Pt D cT b A nL L0 s.heap la st M ls sr H locs) (hd0 : s.drawn.sameBut d0 lw_cs) (kk : am_KK p l e R s m args below meth c Q nL D cT b A L0 la' st' M' pc' kc0 ks0) :
    W p l e R (s.setDrawn d0) m args below meth c H locs (M.2.1 - kc0) (M.2.2.1 - ks0) Q (F0 m pc ls sr) := by
  obtain ⟨hx, hb, hml, hown, hts, hlk, hK, hZ, hA, hini, hRf, hRl, hst⟩ := C
  obtain ⟨lr, ws, hl, hT, hS', hW, hSS, hpre⟩ := hP
  obtain ⟨v1, i, o, r, rfl, h⟩ := via_inv hs
  obtain ⟨e2, hg, h⟩ := Option.bind_eq_some_iff.mp h
  obtain ⟨rfl, rfl, rfl, rfl⟩ := nx_inj h
  obtain ⟨n, f, x1, he, rfl, hin, -, rfl⟩ := wi_inv hg
  obtain ⟨r00, rfl, hS00⟩ := sr_i hS'
  obtain ⟨r0, rfl, hS0⟩ := sr_i hS00
  obtain ⟨q, r1, rfl, hq, hS1⟩ := sr_a hS0
  obtain ⟨e1, hwe, hE⟩ := hW.get hq
  rw [he] at hE
  obtain ⟨cA, ty, x, rfl, hct, hX⟩ := hE
  cases hX
  have ht := cT_ty hK.2.1 hct
  cases ht
  refine va_iast (s := s.setDrawn d0) hx hb hK.1 hW.1 hW.2.1 hSS o 0 hwe hct hin hdec (fun H1 locs1 hP1 hD1 hS2 => ?_)
  have hW2 := hW.set (x := .inl (0, n, .inl (va_up f i.toNatClampNeg x1))) hwe ⟨cA, _, _, rfl, hct, rfl⟩ hP1 hD1
  refine kk d0 ls _ H1 locs1 hd0 ⟨lr, _, hl, ?_, ?_, hW2, hS2, ?_⟩
  · rw [am_la_set ws o q _ _ hwe]; exact hT
  · rw [am_la_set ws o q _ _ hwe]; exact hS1
  · rw [am_la_set ws o q _ _ hwe]; exact hpre

theorem st_lastore (C : am_Cx p l R s m args meth c own cc nL ini D cT A) (hdec : decode cc pc = .ok (.lastore, 1)) (hs : am_step xs (.lastore) fa fb fc v pc la st M = some (.inl (pc', la', st', M'))) (hP : am_Pt D cT b A nL L0 s.heap la st M ls sr H locs) (hd0 : s.drawn.sameBut d0 lw_cs) (kk : am_KK p l e R s m args below meth c Q nL D cT b A L0 la' st' M' pc' kc0 ks0) :
    W p l e R (s.setDrawn d0) m args below meth c H locs (M.2.1 - kc0) (M.2.2.1 - ks0) Q (F0 m pc ls sr) := by
  obtain ⟨hx, hb, hml, hown, hts, hlk, hK, hZ, hA, hini, hRf, hRl, hst⟩ := C
  obtain ⟨lr, ws, hl, hT, hS', hW, hSS, hpre⟩ := hP
  obtain ⟨v1, i, o, r, rfl, h⟩ := via_inv hs
  obtain ⟨e2, hg, h⟩ := Option.bind_eq_some_iff.mp h
  obtain ⟨rfl, rfl, rfl, rfl⟩ := nx_inj h
  obtain ⟨n, f, x1, he, rfl, hin, rfl⟩ := wj_inv hg
  obtain ⟨r00, rfl, hS00⟩ := sr_j hS'
  obtain ⟨r0, rfl, hS0⟩ := sr_i hS00
  obtain ⟨q, r1, rfl, hq, hS1⟩ := sr_a hS0
  obtain ⟨e1, hwe, hE⟩ := hW.get hq
  rw [he] at hE
  obtain ⟨cA, ty, x, rfl, hct, hX⟩ := hE
  cases hX
  have ht := cT_ty hK.2.1 hct
  cases ht
  refine va_last (s := s.setDrawn d0) hx hb hK.1 hW.1 hW.2.1 hSS o 1 hwe hct hin hdec (fun H1 locs1 hP1 hD1 hS2 => ?_)
  have hW2 := hW.set (x := .inl (1, n, .inr (.inl (va_up f i.toNatClampNeg x1)))) hwe ⟨cA, _, _, rfl, hct, rfl⟩ hP1 hD1
  refine kk d0 ls _ H1 locs1 hd0 ⟨lr, _, hl, ?_, ?_, hW2, hS2, ?_⟩
  · rw [am_la_set ws o q _ _ hwe]; exact hT
  · rw [am_la_set ws o q _ _ hwe]; exact hS1
  · rw [am_la_set ws o q _ _ hwe]; exact hpre

theorem st_bastore (C : am_Cx p l R s m args meth c own cc nL ini D cT A) (hdec : decode cc pc = .ok (.bastore, 1)) (hs : am_step xs (.bastore) fa fb fc v pc la st M = some (.inl (pc', la', st', M'))) (hP : am_Pt D cT b A nL L0 s.heap la st M ls sr H locs) (hd0 : s.drawn.sameBut d0 lw_cs) (kk : am_KK p l e R s m args below meth c Q nL D cT b A L0 la' st' M' pc' kc0 ks0) :
    W p l e R (s.setDrawn d0) m args below meth c H locs (M.2.1 - kc0) (M.2.2.1 - ks0) Q (F0 m pc ls sr) := by
  obtain ⟨hx, hb, hml, hown, hts, hlk, hK, hZ, hA, hini, hRf, hRl, hst⟩ := C
  obtain ⟨lr, ws, hl, hT, hS', hW, hSS, hpre⟩ := hP
  obtain ⟨v1, i, o, r, rfl, h⟩ := via_inv hs
  obtain ⟨e2, hg, h⟩ := Option.bind_eq_some_iff.mp h
  obtain ⟨rfl, rfl, rfl, rfl⟩ := nx_inj h
  obtain ⟨n, f, x1, he, rfl, hin, hok, rfl⟩ := wi_inv hg
  obtain ⟨r00, rfl, hS00⟩ := sr_i hS'
  obtain ⟨r0, rfl, hS0⟩ := sr_i hS00
  obtain ⟨q, r1, rfl, hq, hS1⟩ := sr_a hS0
  obtain ⟨e1, hwe, hE⟩ := hW.get hq
  rw [he] at hE
  obtain ⟨cA, ty, x, rfl, hct, hX⟩ := hE
  cases hX
  have ht := cT_ty hK.2.1 hct
  cases ht
  have hnar : vp_nar .boolean x1 = x1 := by
    simp only [am_ok, Bool.or_eq_true, Bool.and_eq_true, beq_iff_eq] at hok
    rcases hok with h0 | ⟨-, rfl | rfl⟩
    · cases h0
    · rfl
    · rfl
  refine va_zast (s := s.setDrawn d0) hx hb hK.1 hW.1 hW.2.1 hSS o 2 hwe hct hin hdec (fun H1 locs1 hP1 hD1 hS2 => ?_)
  rw [hnar] at hP1 hD1
  have hW2 := hW.set (x := .inl (2, n, .inl (va_up f i.toNatClampNeg x1))) hwe ⟨cA, _, _, rfl, hct, rfl⟩ hP1 hD1
  refine kk d0 ls _ H1 locs1 hd0 ⟨lr, _, hl, ?_, ?_, hW2, hS2, ?_⟩
  · rw [am_la_set ws o q _ _ hwe]; exact hT
  · rw [am_la_set ws o q _ _ hwe]; exact hS1
  · rw [am_la_set ws o q _ _ hwe]; exact hpre

theorem st_dastore (C : am_Cx p l R s m args meth c own cc nL ini D cT A) (hdec : decode cc pc = .ok (.dastore, 1)) (hs : am_step xs (.dastore) fa fb fc v pc la st M = some (.inl (pc', la', st', M'))) (hP : am_Pt D cT b A nL L0 s.heap la st M ls sr H locs) (hd0 : s.drawn.sameBut d0 lw_cs) (kk : am_KK p l e R s m args below meth c Q nL D cT b A L0 la' st' M' pc' kc0 ks0) :
    W p l e R (s.setDrawn d0) m args below meth c H locs (M.2.1 - kc0) (M.2.2.1 - ks0) Q (F0 m pc ls sr) := by
  obtain ⟨hx, hb, hml, hown, hts, hlk, hK, hZ, hA, hini, hRf, hRl, hst⟩ := C
  obtain ⟨lr, ws, hl, hT, hS', hW, hSS, hpre⟩ := hP
  obtain ⟨v1, i, o, r, rfl, h⟩ := via_inv hs
  obtain ⟨e2, hg, h⟩ := Option.bind_eq_some_iff.mp h
  obtain ⟨rfl, rfl, rfl, rfl⟩ := nx_inj h
  obtain ⟨n, f, x1, he, rfl, hin, rfl⟩ := wd_inv hg
  obtain ⟨y1, r00, rfl, hy1, hS00⟩ := sr_d hS'
  obtain ⟨r0, rfl, hS0⟩ := sr_i hS00
  obtain ⟨q, r1, rfl, hq, hS1⟩ := sr_a hS0
  obtain ⟨e1, hwe, hE⟩ := hW.get hq
  rw [he] at hE
  obtain ⟨cA, ty, x, rfl, hct, g, rfl, hal⟩ := hE
  have ht := cT_ty hK.2.1 hct
  cases ht
  refine va_dast (s := s.setDrawn d0) hx hb hK.1 hW.1 hW.2.1 hSS o 3 hwe hct hin hdec (fun H1 locs1 hP1 hD1 hS2 => ?_)
  have hW2 := hW.set (x := .inl (3, n, .inr (.inr (.inr (.inl (va_up f i.toNatClampNeg x1)))))) hwe ⟨cA, _, _, rfl, hct, _, rfl, fun j => by
    show alike64 (if j = i.toNatClampNeg then y1 else g j) (if j = i.toNatClampNeg then x1 else f j) = true
    split
    · exact hy1
    · exact hal j⟩ hP1 hD1
  refine kk d0 ls _ H1 locs1 hd0 ⟨lr, _, hl, ?_, ?_, hW2, hS2, ?_⟩
  · rw [am_la_set ws o q _ _ hwe]; exact hT
  · rw [am_la_set ws o q _ _ hwe]; exact hS1
  · rw [am_la_set ws o q _ _ hwe]; exact hpre

theorem st_aastore (C : am_Cx p l R s m args meth c own cc nL ini D cT A) (hdec : decode cc pc = .ok (.aastore, 1)) (hs : am_step xs (.aastore) fa fb fc v pc la st M = some (.inl (pc', la', st', M'))) (hP : am_Pt D cT b A nL L0 s.heap la st M ls sr H locs) (hd0 : s.drawn.sameBut d0 lw_cs) (kk : am_KK p l e R s m args below meth c Q nL D cT b A L0 la' st' M' pc' kc0 ks0) :
    W p l e R (s.setDrawn d0) m args below meth c H locs (M.2.1 - kc0) (M.2.2.1 - ks0) Q (F0 m pc ls sr) := by
  obtain ⟨hx, hb, hml, hown, hts, hlk, hK, hZ, hA, hini, hRf, hRl, hst⟩ := C
  obtain ⟨lr, ws, hl, hT, hS', hW, hSS, hpre⟩ := hP
  obtain ⟨x, i, o, r, rfl, hs⟩ := aas_inv hs
  obtain ⟨e2, hg, h⟩ := Option.bind_eq_some_iff.mp hs
  obtain ⟨rfl, rfl, rfl, rfl⟩ := nx_inj h
  obtain ⟨t, n, f, gx, he, hex, h4, h6, hin, rfl⟩ := wa_inv hg
  obtain ⟨qx, r00, rfl, hqx, hS00⟩ := sr_a hS'
  obtain ⟨r0, rfl, hS0⟩ := sr_i hS00
  obtain ⟨q, r1, rfl, hq, hS1⟩ := sr_a hS0
  obtain ⟨e1, hwe, hE⟩ := hW.get hq
  obtain ⟨e3, hwx, hEx⟩ := hW.get hqx
  rw [he] at hE
  rw [hex] at hEx
  obtain ⟨cA, ty, x2, rfl, hct, g, rfl, hal⟩ := hE
  obtain ⟨gs, rfl, -, -⟩ := hEx
  obtain ⟨cl, hcl, rfl⟩ := elt_ty h4 h6 (cT_ty hK.2.1 hct)
  refine va_astq (s := s.setDrawn d0) hx hb hK.1 hW.1 hW.2.1 hSS o t x (am_elt t) hwe hct hwx hcl hin hdec (fun H1 locs1 hP1 hD1 hS2 => ?_)
  have hW2 := hW.set (x := .inl (t, n, .inr (.inr (.inr (.inr (va_up f i.toNatClampNeg (some x))))))) hwe ⟨cA, _, _, rfl, hct, _, rfl, fun j => by
    show am_QR (am_la ws) (if j = i.toNatClampNeg then some x else f j) (if j = i.toNatClampNeg then some qx else g j)
    split
    · exact ⟨qx, hqx, rfl⟩
    · exact hal j⟩ hP1 hD1
  refine kk d0 ls _ H1 locs1 hd0 ⟨lr, _, hl, ?_, ?_, hW2, hS2, ?_⟩
  · rw [am_la_set ws o q _ _ hwe]; exact hT
  · rw [am_la_set ws o q _ _ hwe]; exact hS1
  · rw [am_la_set ws o q _ _ hwe]; exact hpre

end SX
