/-! which instruction ends, throws or calls; printed by wip/whole/gen_oinv.py -/
section OI
variable {la : am_L} {st : List Value} {M : am_M} {pc : Nat} {xs : Option (Nat × (Nat → Int32))} {fa fb fc : Nat} {v : Value}
theorem cp_fn {X : am_O} (hX : ∀ c, X ≠ .inl c) (h : am_cp fa st pc la M = some X) : False := by
  unfold am_cp at h
  split at h
  · split at h
    · cases h
    · obtain ⟨e, -, h⟩ := Option.bind_eq_some_iff.mp h
      cases h
      exact hX _ rfl
  · cases h
theorem inv_fn {X : am_O} (hX : ∀ c, X ≠ .inr (.inr (.inr c))) (h : am_inv fa fc v st M = some X) : False := by
  unfold am_inv at h
  split at h
  · split at h
    · cases h
      exact hX _ rfl
    · split at h
      · split at h
        · cases h
          exact hX _ rfl
        · cases h
      · cases h
  · cases h
theorem call_inv {i : Instr} {as rest : List Value} (hs : am_step xs i fa fb fc v pc la st M = some (.inr (.inr (.inr (as, rest))))) : ((∃ idx, i = .invokestatic idx) ∧ (fa = 0 ∨ fa = 10) ∨ (∃ idx, i = .invokevirtual idx) ∧ fa = 1 ∨ (∃ idx, i = .invokespecial idx) ∧ (fa = 2 ∨ fa = 12)) ∧ am_inv fa fc v st M = some (.inr (.inr (.inr (as, rest)))) := by
  have nr : ∀ {pc2 : Nat} {l2 : am_L} {st2 : List Value} {M1 : am_M}, am_nx pc2 l2 st2 M1 = some (.inr (.inr (.inr (as, rest)))) → False := by
    intro pc2 l2 st2 M1 h
    cases h
  have sn : ∀ {off : Int} {l2 : am_L} {st2 : List Value} {M1 : am_M}, am_sw pc off l2 st2 M1 = some (.inr (.inr (.inr (as, rest)))) → False := by
    intro off l2 st2 M1 h
    unfold am_sw at h
    split at h <;> cases h
  cases i with
  | iconst n => exact (nr hs).elim
  | bipush n => exact (nr hs).elim
  | sipush n => exact (nr hs).elim
  | lconst n => exact (nr hs).elim
  | dconst n => exact (nr hs).elim
  | aconst_null => exact (nr hs).elim
  | goto n => exact (nr hs).elim
  | ldc n =>
    have hs : (if fa = 0 then am_nx (pc + 2) la (v :: st) M else none) = some (.inr (.inr (.inr (as, rest)))) := hs
    split at hs
    · exact (nr hs).elim
    · cases hs
  | ldc_w n =>
    have hs : (if fa = 0 then am_nx (pc + 3) la (v :: st) M else none) = some (.inr (.inr (.inr (as, rest)))) := hs
    split at hs
    · exact (nr hs).elim
    · cases hs
  | ldc2_w n =>
    have hs : (if fa = 0 then am_nx (pc + 3) la (v :: st) M else none) = some (.inr (.inr (.inr (as, rest)))) := hs
    split at hs
    · exact (nr hs).elim
    · cases hs
  | iload_n n =>
    obtain ⟨_, _, h⟩ := ldi_inv hs
    exact (nr h).elim
  | iload n =>
    obtain ⟨_, _, h⟩ := ldi_inv hs
    exact (nr h).elim
  | lload_n n =>
    obtain ⟨_, _, h⟩ := ldj_inv hs
    exact (nr h).elim
  | lload n =>
    obtain ⟨_, _, h⟩ := ldj_inv hs
    exact (nr h).elim
  | dload_n n =>
    obtain ⟨_, _, h⟩ := ldd_inv hs
    exact (nr h).elim
  | dload n =>
    obtain ⟨_, _, h⟩ := ldd_inv hs
    exact (nr h).elim
  | aload_n n =>
    have hs : am_lda (am_lg la n) (pc + 1) la st M = some (.inr (.inr (.inr (as, rest)))) := hs
    unfold am_lda at hs
    split at hs
    · exact (nr hs).elim
    · exact (nr hs).elim
    · exact (nr hs).elim
    · cases hs
  | aload n =>
    have hs : am_lda (am_lg la n) (pc + 2) la st M = some (.inr (.inr (.inr (as, rest)))) := hs
    unfold am_lda at hs
    split at hs
    · exact (nr hs).elim
    · exact (nr hs).elim
    · exact (nr hs).elim
    · cases hs
  | istore_n n =>
    obtain ⟨_, _, _, h⟩ := i1_inv hs
    exact (nr h).elim
  | istore n =>
    obtain ⟨_, _, _, h⟩ := i1_inv hs
    exact (nr h).elim
  | lstore_n n =>
    obtain ⟨_, _, _, h⟩ := j1_inv hs
    exact (nr h).elim
  | lstore n =>
    obtain ⟨_, _, _, h⟩ := j1_inv hs
    exact (nr h).elim
  | dstore_n n =>
    obtain ⟨_, _, _, h⟩ := d1_inv hs
    exact (nr h).elim
  | dstore n =>
    obtain ⟨_, _, _, h⟩ := d1_inv hs
    exact (nr h).elim
  | lneg =>
    obtain ⟨_, _, _, h⟩ := j1_inv hs
    exact (nr h).elim
  | i2l =>
    obtain ⟨_, _, _, h⟩ := i1_inv hs
    exact (nr h).elim
  | l2i =>
    obtain ⟨_, _, _, h⟩ := j1_inv hs
    exact (nr h).elim
  | i2d =>
    obtain ⟨_, _, _, h⟩ := i1_inv hs
    exact (nr h).elim
  | l2d =>
    obtain ⟨_, _, _, h⟩ := j1_inv hs
    exact (nr h).elim
  | astore_n n =>
    have hs : am_sta n (pc + 1) la st M = some (.inr (.inr (.inr (as, rest)))) := hs
    unfold am_sta at hs
    split at hs
    · exact (nr hs).elim
    · exact (nr hs).elim
    · exact (nr hs).elim
    · exact (nr hs).elim
    · cases hs
  | astore n =>
    have hs : am_sta n (pc + 2) la st M = some (.inr (.inr (.inr (as, rest)))) := hs
    unfold am_sta at hs
    split at hs
    · exact (nr hs).elim
    · exact (nr hs).elim
    · exact (nr hs).elim
    · exact (nr hs).elim
    · cases hs
  | iinc k n =>
    have hs : am_inc (am_lg la k) k (Int32.ofInt n) (pc + 3) la st M = some (.inr (.inr (.inr (as, rest)))) := hs
    unfold am_inc at hs
    split at hs
    · exact (nr hs).elim
    · cases hs
  | iadd =>
    obtain ⟨_, _, _, _, h⟩ := i2_inv hs
    exact (nr h).elim
  | isub =>
    obtain ⟨_, _, _, _, h⟩ := i2_inv hs
    exact (nr h).elim
  | imul =>
    obtain ⟨_, _, _, _, h⟩ := i2_inv hs
    exact (nr h).elim
  | iand =>
    obtain ⟨_, _, _, _, h⟩ := i2_inv hs
    exact (nr h).elim
  | ixor =>
    obtain ⟨_, _, _, _, h⟩ := i2_inv hs
    exact (nr h).elim
  | iushr =>
    obtain ⟨_, _, _, _, h⟩ := i2_inv hs
    exact (nr h).elim
  | ladd =>
    obtain ⟨_, _, _, _, h⟩ := j2_inv hs
    exact (nr h).elim
  | lsub =>
    obtain ⟨_, _, _, _, h⟩ := j2_inv hs
    exact (nr h).elim
  | lmul =>
    obtain ⟨_, _, _, _, h⟩ := j2_inv hs
    exact (nr h).elim
  | land =>
    obtain ⟨_, _, _, _, h⟩ := j2_inv hs
    exact (nr h).elim
  | lor =>
    obtain ⟨_, _, _, _, h⟩ := j2_inv hs
    exact (nr h).elim
  | lxor =>
    obtain ⟨_, _, _, _, h⟩ := j2_inv hs
    exact (nr h).elim
  | lcmp =>
    obtain ⟨_, _, _, _, h⟩ := j2_inv hs
    exact (nr h).elim
  | lshl =>
    obtain ⟨_, _, _, _, h⟩ := ij_inv hs
    exact (nr h).elim
  | dadd =>
    obtain ⟨_, _, _, _, h⟩ := d2_inv hs
    exact (nr h).elim
  | dsub =>
    obtain ⟨_, _, _, _, h⟩ := d2_inv hs
    exact (nr h).elim
  | dmul =>
    obtain ⟨_, _, _, _, h⟩ := d2_inv hs
    exact (nr h).elim
  | ddiv =>
    obtain ⟨_, _, _, _, h⟩ := d2_inv hs
    exact (nr h).elim
  | dcmp op =>
    obtain ⟨_, _, _, _, h⟩ := d2_inv hs
    exact (nr h).elim
  | idiv =>
    obtain ⟨_, _, _, _, h⟩ := i2_inv hs
    split at h
    · cases h
    · exact (nr h).elim
  | irem =>
    obtain ⟨_, _, _, _, h⟩ := i2_inv hs
    split at h
    · cases h
    · exact (nr h).elim
  | ldiv =>
    obtain ⟨_, _, _, _, h⟩ := j2_inv hs
    split at h
    · cases h
    · exact (nr h).elim
  | lrem =>
    obtain ⟨_, _, _, _, h⟩ := j2_inv hs
    split at h
    · cases h
    · exact (nr h).elim
  | dup =>
    have hs : am_dup st (pc + 1) la M = some (.inr (.inr (.inr (as, rest)))) := hs
    unfold am_dup at hs
    split at hs
    · split at hs
      · exact (nr hs).elim
      · cases hs
    · cases hs
  | dup2 =>
    have hs : am_dup2 st (pc + 1) la M = some (.inr (.inr (.inr (as, rest)))) := hs
    unfold am_dup2 at hs
    split at hs
    · split at hs
      · exact (nr hs).elim
      · cases hs
    · cases hs
  | ifCond cd n =>
    cases cd <;> (obtain ⟨_, _, _, h⟩ := i1_inv hs; exact (nr h).elim)
  | if_icmp cd n =>
    cases cd <;> (obtain ⟨_, _, _, _, h⟩ := i2_inv hs; exact (nr h).elim)
  | ifnull n =>
    have hs : am_nul st fa (pc + 3) la M = some (.inr (.inr (.inr (as, rest)))) := hs
    unfold am_nul at hs
    split at hs
    · exact (nr hs).elim
    · exact (nr hs).elim
    · cases hs
  | ifnonnull n =>
    have hs : am_nul st (pc + 3) fa la M = some (.inr (.inr (.inr (as, rest)))) := hs
    unfold am_nul at hs
    split at hs
    · exact (nr hs).elim
    · exact (nr hs).elim
    · cases hs
  | tableswitch a1 a2 a3 a4 =>
    obtain ⟨x, r, -, h⟩ := i1_inv hs
    split at h
    · exact (sn h).elim
    · split at h
      · exact (sn h).elim
      · cases h
  | getfield n =>
    obtain ⟨_, _, _, h⟩ := a1_inv hs
    obtain ⟨_, _, h⟩ := Option.bind_eq_some_iff.mp h
    exact (nr h).elim
  | putfield n =>
    obtain ⟨_, _, _, _, h⟩ := put_inv hs
    obtain ⟨_, _, h⟩ := Option.bind_eq_some_iff.mp h
    exact (nr h).elim
  | arraylength =>
    rcases aln_inv hs with ⟨_, _, _, h⟩ | ⟨_, _, _, h⟩ <;> (obtain ⟨_, _, h⟩ := Option.bind_eq_some_iff.mp h; exact (nr h).elim)
  | iaload =>
    rcases ial_inv hs with ⟨_, _, _, _, h⟩ | ⟨_, _, _, _, h⟩
    · obtain ⟨_, _, h⟩ := Option.bind_eq_some_iff.mp h
      exact (nr h).elim
    · obtain ⟨_, _, h⟩ := Option.bind_eq_some_iff.mp h
      split at h
      · cases h
      · exact (nr h).elim
  | baload =>
    obtain ⟨_, _, _, _, h⟩ := ia_inv hs
    obtain ⟨_, _, h⟩ := Option.bind_eq_some_iff.mp h
    exact (nr h).elim
  | laload =>
    obtain ⟨_, _, _, _, h⟩ := ia_inv hs
    obtain ⟨_, _, h⟩ := Option.bind_eq_some_iff.mp h
    exact (nr h).elim
  | daload =>
    obtain ⟨_, _, _, _, h⟩ := ia_inv hs
    obtain ⟨_, _, h⟩ := Option.bind_eq_some_iff.mp h
    exact (nr h).elim
  | aaload =>
    obtain ⟨_, _, _, _, h⟩ := ia_inv hs
    obtain ⟨_, _, h⟩ := Option.bind_eq_some_iff.mp h
    exact (nr h).elim
  | iastore =>
    obtain ⟨_, _, _, _, _, h⟩ := via_inv hs
    obtain ⟨_, _, h⟩ := Option.bind_eq_some_iff.mp h
    exact (nr h).elim
  | lastore =>
    obtain ⟨_, _, _, _, _, h⟩ := via_inv hs
    obtain ⟨_, _, h⟩ := Option.bind_eq_some_iff.mp h
    exact (nr h).elim
  | bastore =>
    obtain ⟨_, _, _, _, _, h⟩ := via_inv hs
    obtain ⟨_, _, h⟩ := Option.bind_eq_some_iff.mp h
    exact (nr h).elim
  | dastore =>
    obtain ⟨_, _, _, _, _, h⟩ := via_inv hs
    obtain ⟨_, _, h⟩ := Option.bind_eq_some_iff.mp h
    exact (nr h).elim
  | aastore =>
    obtain ⟨_, _, _, _, _, h⟩ := aas_inv hs
    obtain ⟨_, _, h⟩ := Option.bind_eq_some_iff.mp h
    exact (nr h).elim
  | newarray n =>
    obtain ⟨_, _, _, h⟩ := i1_inv hs
    split at h
    · cases h
    · exact (nr h).elim
  | anewarray n =>
    obtain ⟨_, _, _, h⟩ := i1_inv hs
    split at h
    · cases h
    · exact (nr h).elim
  | new n =>
    have hs : (if fa < 9 then am_nx (pc + 3) la (.ref M.1 :: st) (am_new M (am_nf fa).length (.inr (fa, am_nf fa))) else if am_wt st ≤ 8 then some (.inr (.inr (.inl fa))) else none) = some (.inr (.inr (.inr (as, rest)))) := hs
    split at hs
    · exact (nr hs).elim
    · split at hs
      · cases hs
      · cases hs
  | invokestatic n =>
    have hs : (if fa = 4 ∨ fa = 5 then am_cp fa st pc la M else if fa = 0 ∨ fa = 10 then am_inv fa fc v st M else none) = some (.inr (.inr (.inr (as, rest)))) := hs
    split at hs
    · exact (cp_fn (by intro c z; cases z) hs).elim
    · split at hs
      · exact ⟨Or.inl ⟨⟨_, rfl⟩, by assumption⟩, hs⟩
      · cases hs
  | invokespecial n =>
    have hs : (if fa = 3 then am_a1 st (fun _ r => if 8 < am_wt r then none else am_nx (pc + 3) la r M) else if fa = 2 ∨ fa = 12 then am_inv fa fc v st M else none) = some (.inr (.inr (.inr (as, rest)))) := hs
    split at hs
    · obtain ⟨_, _, _, h⟩ := a1_inv hs
      split at h
      · cases h
      · exact (nr h).elim
    · split at hs
      · exact ⟨Or.inr (Or.inr ⟨⟨_, rfl⟩, by assumption⟩), hs⟩
      · cases hs
  | invokevirtual n =>
    have hs : (if fa = 1 then am_inv fa fc v st M else none) = some (.inr (.inr (.inr (as, rest)))) := hs
    split at hs
    · exact ⟨Or.inr (Or.inl ⟨⟨_, rfl⟩, by assumption⟩), hs⟩
    · cases hs
  | ireturn =>
    have hs : am_rti st fc = some (.inr (.inr (.inr (as, rest)))) := hs
    unfold am_rti at hs
    split at hs
    · split at hs <;> cases hs
    · cases hs
  | lreturn =>
    have hs : am_rtj st = some (.inr (.inr (.inr (as, rest)))) := hs
    unfold am_rtj at hs
    split at hs <;> cases hs
  | dreturn =>
    have hs : am_rtd st = some (.inr (.inr (.inr (as, rest)))) := hs
    unfold am_rtd at hs
    split at hs <;> cases hs
  | areturn =>
    have hs : am_rta st = some (.inr (.inr (.inr (as, rest)))) := hs
    unfold am_rta at hs
    split at hs <;> cases hs
  | return_ =>
    have hs : am_rtv st = some (.inr (.inr (.inr (as, rest)))) := hs
    unfold am_rtv at hs
    split at hs <;> cases hs
  | _ => exact absurd (show (none : Option am_O) = some (.inr (.inr (.inr (as, rest)))) from hs) (by intro z; cases z)
theorem thr_inv {i : Instr} {E : Nat} (hs : am_step xs i fa fb fc v pc la st M = some (.inr (.inr (.inl E)))) : (∃ idx, i = .new idx) ∧ ¬ fa < 9 ∧ am_wt st ≤ 8 ∧ fa = E := by
  have nr : ∀ {pc2 : Nat} {l2 : am_L} {st2 : List Value} {M1 : am_M}, am_nx pc2 l2 st2 M1 = some (.inr (.inr (.inl E))) → False := by
    intro pc2 l2 st2 M1 h
    cases h
  have sn : ∀ {off : Int} {l2 : am_L} {st2 : List Value} {M1 : am_M}, am_sw pc off l2 st2 M1 = some (.inr (.inr (.inl E))) → False := by
    intro off l2 st2 M1 h
    unfold am_sw at h
    split at h <;> cases h
  cases i with
  | iconst n => exact (nr hs).elim
  | bipush n => exact (nr hs).elim
  | sipush n => exact (nr hs).elim
  | lconst n => exact (nr hs).elim
  | dconst n => exact (nr hs).elim
  | aconst_null => exact (nr hs).elim
  | goto n => exact (nr hs).elim
  | ldc n =>
    have hs : (if fa = 0 then am_nx (pc + 2) la (v :: st) M else none) = some (.inr (.inr (.inl E))) := hs
    split at hs
    · exact (nr hs).elim
    · cases hs
  | ldc_w n =>
    have hs : (if fa = 0 then am_nx (pc + 3) la (v :: st) M else none) = some (.inr (.inr (.inl E))) := hs
    split at hs
    · exact (nr hs).elim
    · cases hs
  | ldc2_w n =>
    have hs : (if fa = 0 then am_nx (pc + 3) la (v :: st) M else none) = some (.inr (.inr (.inl E))) := hs
    split at hs
    · exact (nr hs).elim
    · cases hs
  | iload_n n =>
    obtain ⟨_, _, h⟩ := ldi_inv hs
    exact (nr h).elim
  | iload n =>
    obtain ⟨_, _, h⟩ := ldi_inv hs
    exact (nr h).elim
  | lload_n n =>
    obtain ⟨_, _, h⟩ := ldj_inv hs
    exact (nr h).elim
  | lload n =>
    obtain ⟨_, _, h⟩ := ldj_inv hs
    exact (nr h).elim
  | dload_n n =>
    obtain ⟨_, _, h⟩ := ldd_inv hs
    exact (nr h).elim
  | dload n =>
    obtain ⟨_, _, h⟩ := ldd_inv hs
    exact (nr h).elim
  | aload_n n =>
    have hs : am_lda (am_lg la n) (pc + 1) la st M = some (.inr (.inr (.inl E))) := hs
    unfold am_lda at hs
    split at hs
    · exact (nr hs).elim
    · exact (nr hs).elim
    · exact (nr hs).elim
    · cases hs
  | aload n =>
    have hs : am_lda (am_lg la n) (pc + 2) la st M = some (.inr (.inr (.inl E))) := hs
    unfold am_lda at hs
    split at hs
    · exact (nr hs).elim
    · exact (nr hs).elim
    · exact (nr hs).elim
    · cases hs
  | istore_n n =>
    obtain ⟨_, _, _, h⟩ := i1_inv hs
    exact (nr h).elim
  | istore n =>
    obtain ⟨_, _, _, h⟩ := i1_inv hs
    exact (nr h).elim
  | lstore_n n =>
    obtain ⟨_, _, _, h⟩ := j1_inv hs
    exact (nr h).elim
  | lstore n =>
    obtain ⟨_, _, _, h⟩ := j1_inv hs
    exact (nr h).elim
  | dstore_n n =>
    obtain ⟨_, _, _, h⟩ := d1_inv hs
    exact (nr h).elim
  | dstore n =>
    obtain ⟨_, _, _, h⟩ := d1_inv hs
    exact (nr h).elim
  | lneg =>
    obtain ⟨_, _, _, h⟩ := j1_inv hs
    exact (nr h).elim
  | i2l =>
    obtain ⟨_, _, _, h⟩ := i1_inv hs
    exact (nr h).elim
  | l2i =>
    obtain ⟨_, _, _, h⟩ := j1_inv hs
    exact (nr h).elim
  | i2d =>
    obtain ⟨_, _, _, h⟩ := i1_inv hs
    exact (nr h).elim
  | l2d =>
    obtain ⟨_, _, _, h⟩ := j1_inv hs
    exact (nr h).elim
  | astore_n n =>
    have hs : am_sta n (pc + 1) la st M = some (.inr (.inr (.inl E))) := hs
    unfold am_sta at hs
    split at hs
    · exact (nr hs).elim
    · exact (nr hs).elim
    · exact (nr hs).elim
    · exact (nr hs).elim
    · cases hs
  | astore n =>
    have hs : am_sta n (pc + 2) la st M = some (.inr (.inr (.inl E))) := hs
    unfold am_sta at hs
    split at hs
    · exact (nr hs).elim
    · exact (nr hs).elim
    · exact (nr hs).elim
    · exact (nr hs).elim
    · cases hs
  | iinc k n =>
    have hs : am_inc (am_lg la k) k (Int32.ofInt n) (pc + 3) la st M = some (.inr (.inr (.inl E))) := hs
    unfold am_inc at hs
    split at hs
    · exact (nr hs).elim
    · cases hs
  | iadd =>
    obtain ⟨_, _, _, _, h⟩ := i2_inv hs
    exact (nr h).elim
  | isub =>
    obtain ⟨_, _, _, _, h⟩ := i2_inv hs
    exact (nr h).elim
  | imul =>
    obtain ⟨_, _, _, _, h⟩ := i2_inv hs
    exact (nr h).elim
  | iand =>
    obtain ⟨_, _, _, _, h⟩ := i2_inv hs
    exact (nr h).elim
  | ixor =>
    obtain ⟨_, _, _, _, h⟩ := i2_inv hs
    exact (nr h).elim
  | iushr =>
    obtain ⟨_, _, _, _, h⟩ := i2_inv hs
    exact (nr h).elim
  | ladd =>
    obtain ⟨_, _, _, _, h⟩ := j2_inv hs
    exact (nr h).elim
  | lsub =>
    obtain ⟨_, _, _, _, h⟩ := j2_inv hs
    exact (nr h).elim
  | lmul =>
    obtain ⟨_, _, _, _, h⟩ := j2_inv hs
    exact (nr h).elim
  | land =>
    obtain ⟨_, _, _, _, h⟩ := j2_inv hs
    exact (nr h).elim
  | lor =>
    obtain ⟨_, _, _, _, h⟩ := j2_inv hs
    exact (nr h).elim
  | lxor =>
    obtain ⟨_, _, _, _, h⟩ := j2_inv hs
    exact (nr h).elim
  | lcmp =>
    obtain ⟨_, _, _, _, h⟩ := j2_inv hs
    exact (nr h).elim
  | lshl =>
    obtain ⟨_, _, _, _, h⟩ := ij_inv hs
    exact (nr h).elim
  | dadd =>
    obtain ⟨_, _, _, _, h⟩ := d2_inv hs
    exact (nr h).elim
  | dsub =>
    obtain ⟨_, _, _, _, h⟩ := d2_inv hs
    exact (nr h).elim
  | dmul =>
    obtain ⟨_, _, _, _, h⟩ := d2_inv hs
    exact (nr h).elim
  | ddiv =>
    obtain ⟨_, _, _, _, h⟩ := d2_inv hs
    exact (nr h).elim
  | dcmp op =>
    obtain ⟨_, _, _, _, h⟩ := d2_inv hs
    exact (nr h).elim
  | idiv =>
    obtain ⟨_, _, _, _, h⟩ := i2_inv hs
    split at h
    · cases h
    · exact (nr h).elim
  | irem =>
    obtain ⟨_, _, _, _, h⟩ := i2_inv hs
    split at h
    · cases h
    · exact (nr h).elim
  | ldiv =>
    obtain ⟨_, _, _, _, h⟩ := j2_inv hs
    split at h
    · cases h
    · exact (nr h).elim
  | lrem =>
    obtain ⟨_, _, _, _, h⟩ := j2_inv hs
    split at h
    · cases h
    · exact (nr h).elim
  | dup =>
    have hs : am_dup st (pc + 1) la M = some (.inr (.inr (.inl E))) := hs
    unfold am_dup at hs
    split at hs
    · split at hs
      · exact (nr hs).elim
      · cases hs
    · cases hs
  | dup2 =>
    have hs : am_dup2 st (pc + 1) la M = some (.inr (.inr (.inl E))) := hs
    unfold am_dup2 at hs
    split at hs
    · split at hs
      · exact (nr hs).elim
      · cases hs
    · cases hs
  | ifCond cd n =>
    cases cd <;> (obtain ⟨_, _, _, h⟩ := i1_inv hs; exact (nr h).elim)
  | if_icmp cd n =>
    cases cd <;> (obtain ⟨_, _, _, _, h⟩ := i2_inv hs; exact (nr h).elim)
  | ifnull n =>
    have hs : am_nul st fa (pc + 3) la M = some (.inr (.inr (.inl E))) := hs
    unfold am_nul at hs
    split at hs
    · exact (nr hs).elim
    · exact (nr hs).elim
    · cases hs
  | ifnonnull n =>
    have hs : am_nul st (pc + 3) fa la M = some (.inr (.inr (.inl E))) := hs
    unfold am_nul at hs
    split at hs
    · exact (nr hs).elim
    · exact (nr hs).elim
    · cases hs
  | tableswitch a1 a2 a3 a4 =>
    obtain ⟨x, r, -, h⟩ := i1_inv hs
    split at h
    · exact (sn h).elim
    · split at h
      · exact (sn h).elim
      · cases h
  | getfield n =>
    obtain ⟨_, _, _, h⟩ := a1_inv hs
    obtain ⟨_, _, h⟩ := Option.bind_eq_some_iff.mp h
    exact (nr h).elim
  | putfield n =>
    obtain ⟨_, _, _, _, h⟩ := put_inv hs
    obtain ⟨_, _, h⟩ := Option.bind_eq_some_iff.mp h
    exact (nr h).elim
  | arraylength =>
    rcases aln_inv hs with ⟨_, _, _, h⟩ | ⟨_, _, _, h⟩ <;> (obtain ⟨_, _, h⟩ := Option.bind_eq_some_iff.mp h; exact (nr h).elim)
  | iaload =>
    rcases ial_inv hs with ⟨_, _, _, _, h⟩ | ⟨_, _, _, _, h⟩
    · obtain ⟨_, _, h⟩ := Option.bind_eq_some_iff.mp h
      exact (nr h).elim
    · obtain ⟨_, _, h⟩ := Option.bind_eq_some_iff.mp h
      split at h
      · cases h
      · exact (nr h).elim
  | baload =>
    obtain ⟨_, _, _, _, h⟩ := ia_inv hs
    obtain ⟨_, _, h⟩ := Option.bind_eq_some_iff.mp h
    exact (nr h).elim
  | laload =>
    obtain ⟨_, _, _, _, h⟩ := ia_inv hs
    obtain ⟨_, _, h⟩ := Option.bind_eq_some_iff.mp h
    exact (nr h).elim
  | daload =>
    obtain ⟨_, _, _, _, h⟩ := ia_inv hs
    obtain ⟨_, _, h⟩ := Option.bind_eq_some_iff.mp h
    exact (nr h).elim
  | aaload =>
    obtain ⟨_, _, _, _, h⟩ := ia_inv hs
    obtain ⟨_, _, h⟩ := Option.bind_eq_some_iff.mp h
    exact (nr h).elim
  | iastore =>
    obtain ⟨_, _, _, _, _, h⟩ := via_inv hs
    obtain ⟨_, _, h⟩ := Option.bind_eq_some_iff.mp h
    exact (nr h).elim
  | lastore =>
    obtain ⟨_, _, _, _, _, h⟩ := via_inv hs
    obtain ⟨_, _, h⟩ := Option.bind_eq_some_iff.mp h
    exact (nr h).elim
  | bastore =>
    obtain ⟨_, _, _, _, _, h⟩ := via_inv hs
    obtain ⟨_, _, h⟩ := Option.bind_eq_some_iff.mp h
    exact (nr h).elim
  | dastore =>
    obtain ⟨_, _, _, _, _, h⟩ := via_inv hs
    obtain ⟨_, _, h⟩ := Option.bind_eq_some_iff.mp h
    exact (nr h).elim
  | aastore =>
    obtain ⟨_, _, _, _, _, h⟩ := aas_inv hs
    obtain ⟨_, _, h⟩ := Option.bind_eq_some_iff.mp h
    exact (nr h).elim
  | newarray n =>
    obtain ⟨_, _, _, h⟩ := i1_inv hs
    split at h
    · cases h
    · exact (nr h).elim
  | anewarray n =>
    obtain ⟨_, _, _, h⟩ := i1_inv hs
    split at h
    · cases h
    · exact (nr h).elim
  | new n =>
    have hs : (if fa < 9 then am_nx (pc + 3) la (.ref M.1 :: st) (am_new M (am_nf fa).length (.inr (fa, am_nf fa))) else if am_wt st ≤ 8 then some (.inr (.inr (.inl fa))) else none) = some (.inr (.inr (.inl E))) := hs
    split at hs
    · exact (nr hs).elim
    · split at hs
      · cases hs
        exact ⟨⟨_, rfl⟩, by assumption, by assumption, rfl⟩
      · cases hs
  | invokestatic n =>
    have hs : (if fa = 4 ∨ fa = 5 then am_cp fa st pc la M else if fa = 0 ∨ fa = 10 then am_inv fa fc v st M else none) = some (.inr (.inr (.inl E))) := hs
    split at hs
    · exact (cp_fn (by intro c z; cases z) hs).elim
    · split at hs
      · exact (inv_fn (by intro c z; cases z) hs).elim
      · cases hs
  | invokespecial n =>
    have hs : (if fa = 3 then am_a1 st (fun _ r => if 8 < am_wt r then none else am_nx (pc + 3) la r M) else if fa = 2 ∨ fa = 12 then am_inv fa fc v st M else none) = some (.inr (.inr (.inl E))) := hs
    split at hs
    · obtain ⟨_, _, _, h⟩ := a1_inv hs
      split at h
      · cases h
      · exact (nr h).elim
    · split at hs
      · exact (inv_fn (by intro c z; cases z) hs).elim
      · cases hs
  | invokevirtual n =>
    have hs : (if fa = 1 then am_inv fa fc v st M else none) = some (.inr (.inr (.inl E))) := hs
    split at hs
    · exact (inv_fn (by intro c z; cases z) hs).elim
    · cases hs
  | ireturn =>
    have hs : am_rti st fc = some (.inr (.inr (.inl E))) := hs
    unfold am_rti at hs
    split at hs
    · split at hs <;> cases hs
    · cases hs
  | lreturn =>
    have hs : am_rtj st = some (.inr (.inr (.inl E))) := hs
    unfold am_rtj at hs
    split at hs <;> cases hs
  | dreturn =>
    have hs : am_rtd st = some (.inr (.inr (.inl E))) := hs
    unfold am_rtd at hs
    split at hs <;> cases hs
  | areturn =>
    have hs : am_rta st = some (.inr (.inr (.inl E))) := hs
    unfold am_rta at hs
    split at hs <;> cases hs
  | return_ =>
    have hs : am_rtv st = some (.inr (.inr (.inl E))) := hs
    unfold am_rtv at hs
    split at hs <;> cases hs
  | _ => exact absurd (show (none : Option am_O) = some (.inr (.inr (.inl E))) from hs) (by intro z; cases z)
theorem ret_inv {i : Instr} {ret : Option Value} (hs : am_step xs i fa fb fc v pc la st M = some (.inr (.inl ret))) : (i = .ireturn ∧ ∃ x, st = [.int x] ∧ am_ok fc (.int x) = true ∧ ret = some (.int x)) ∨ (i = .lreturn ∧ ∃ x, st = [.long x] ∧ ret = some (.long x)) ∨ (i = .dreturn ∧ ∃ x, st = [.double x] ∧ ret = some (.double x)) ∨ (i = .areturn ∧ ∃ x, st = [.ref x] ∧ ret = some (.ref x)) ∨ (i = .areturn ∧ st = [.null] ∧ ret = some .null) ∨ (i = .return_ ∧ st = [] ∧ ret = none) := by
  have nr : ∀ {pc2 : Nat} {l2 : am_L} {st2 : List Value} {M1 : am_M}, am_nx pc2 l2 st2 M1 = some (.inr (.inl ret)) → False := by
    intro pc2 l2 st2 M1 h
    cases h
  have sn : ∀ {off : Int} {l2 : am_L} {st2 : List Value} {M1 : am_M}, am_sw pc off l2 st2 M1 = some (.inr (.inl ret)) → False := by
    intro off l2 st2 M1 h
    unfold am_sw at h
    split at h <;> cases h
  cases i with
  | iconst n => exact (nr hs).elim
  | bipush n => exact (nr hs).elim
  | sipush n => exact (nr hs).elim
  | lconst n => exact (nr hs).elim
  | dconst n => exact (nr hs).elim
  | aconst_null => exact (nr hs).elim
  | goto n => exact (nr hs).elim
  | ldc n =>
    have hs : (if fa = 0 then am_nx (pc + 2) la (v :: st) M else none) = some (.inr (.inl ret)) := hs
    split at hs
    · exact (nr hs).elim
    · cases hs
  | ldc_w n =>
    have hs : (if fa = 0 then am_nx (pc + 3) la (v :: st) M else none) = some (.inr (.inl ret)) := hs
    split at hs
    · exact (nr hs).elim
    · cases hs
  | ldc2_w n =>
    have hs : (if fa = 0 then am_nx (pc + 3) la (v :: st) M else none) = some (.inr (.inl ret)) := hs
    split at hs
    · exact (nr hs).elim
    · cases hs
  | iload_n n =>
    obtain ⟨_, _, h⟩ := ldi_inv hs
    exact (nr h).elim
  | iload n =>
    obtain ⟨_, _, h⟩ := ldi_inv hs
    exact (nr h).elim
  | lload_n n =>
    obtain ⟨_, _, h⟩ := ldj_inv hs
    exact (nr h).elim
  | lload n =>
    obtain ⟨_, _, h⟩ := ldj_inv hs
    exact (nr h).elim
  | dload_n n =>
    obtain ⟨_, _, h⟩ := ldd_inv hs
    exact (nr h).elim
  | dload n =>
    obtain ⟨_, _, h⟩ := ldd_inv hs
    exact (nr h).elim
  | aload_n n =>
    have hs : am_lda (am_lg la n) (pc + 1) la st M = some (.inr (.inl ret)) := hs
    unfold am_lda at hs
    split at hs
    · exact (nr hs).elim
    · exact (nr hs).elim
    · exact (nr hs).elim
    · cases hs
  | aload n =>
    have hs : am_lda (am_lg la n) (pc + 2) la st M = some (.inr (.inl ret)) := hs
    unfold am_lda at hs
    split at hs
    · exact (nr hs).elim
    · exact (nr hs).elim
    · exact (nr hs).elim
    · cases hs
  | istore_n n =>
    obtain ⟨_, _, _, h⟩ := i1_inv hs
    exact (nr h).elim
  | istore n =>
    obtain ⟨_, _, _, h⟩ := i1_inv hs
    exact (nr h).elim
  | lstore_n n =>
    obtain ⟨_, _, _, h⟩ := j1_inv hs
    exact (nr h).elim
  | lstore n =>
    obtain ⟨_, _, _, h⟩ := j1_inv hs
    exact (nr h).elim
  | dstore_n n =>
    obtain ⟨_, _, _, h⟩ := d1_inv hs
    exact (nr h).elim
  | dstore n =>
    obtain ⟨_, _, _, h⟩ := d1_inv hs
    exact (nr h).elim
  | lneg =>
    obtain ⟨_, _, _, h⟩ := j1_inv hs
    exact (nr h).elim
  | i2l =>
    obtain ⟨_, _, _, h⟩ := i1_inv hs
    exact (nr h).elim
  | l2i =>
    obtain ⟨_, _, _, h⟩ := j1_inv hs
    exact (nr h).elim
  | i2d =>
    obtain ⟨_, _, _, h⟩ := i1_inv hs
    exact (nr h).elim
  | l2d =>
    obtain ⟨_, _, _, h⟩ := j1_inv hs
    exact (nr h).elim
  | astore_n n =>
    have hs : am_sta n (pc + 1) la st M = some (.inr (.inl ret)) := hs
    unfold am_sta at hs
    split at hs
    · exact (nr hs).elim
    · exact (nr hs).elim
    · exact (nr hs).elim
    · exact (nr hs).elim
    · cases hs
  | astore n =>
    have hs : am_sta n (pc + 2) la st M = some (.inr (.inl ret)) := hs
    unfold am_sta at hs
    split at hs
    · exact (nr hs).elim
    · exact (nr hs).elim
    · exact (nr hs).elim
    · exact (nr hs).elim
    · cases hs
  | iinc k n =>
    have hs : am_inc (am_lg la k) k (Int32.ofInt n) (pc + 3) la st M = some (.inr (.inl ret)) := hs
    unfold am_inc at hs
    split at hs
    · exact (nr hs).elim
    · cases hs
  | iadd =>
    obtain ⟨_, _, _, _, h⟩ := i2_inv hs
    exact (nr h).elim
  | isub =>
    obtain ⟨_, _, _, _, h⟩ := i2_inv hs
    exact (nr h).elim
  | imul =>
    obtain ⟨_, _, _, _, h⟩ := i2_inv hs
    exact (nr h).elim
  | iand =>
    obtain ⟨_, _, _, _, h⟩ := i2_inv hs
    exact (nr h).elim
  | ixor =>
    obtain ⟨_, _, _, _, h⟩ := i2_inv hs
    exact (nr h).elim
  | iushr =>
    obtain ⟨_, _, _, _, h⟩ := i2_inv hs
    exact (nr h).elim
  | ladd =>
    obtain ⟨_, _, _, _, h⟩ := j2_inv hs
    exact (nr h).elim
  | lsub =>
    obtain ⟨_, _, _, _, h⟩ := j2_inv hs
    exact (nr h).elim
  | lmul =>
    obtain ⟨_, _, _, _, h⟩ := j2_inv hs
    exact (nr h).elim
  | land =>
    obtain ⟨_, _, _, _, h⟩ := j2_inv hs
    exact (nr h).elim
  | lor =>
    obtain ⟨_, _, _, _, h⟩ := j2_inv hs
    exact (nr h).elim
  | lxor =>
    obtain ⟨_, _, _, _, h⟩ := j2_inv hs
    exact (nr h).elim
  | lcmp =>
    obtain ⟨_, _, _, _, h⟩ := j2_inv hs
    exact (nr h).elim
  | lshl =>
    obtain ⟨_, _, _, _, h⟩ := ij_inv hs
    exact (nr h).elim
  | dadd =>
    obtain ⟨_, _, _, _, h⟩ := d2_inv hs
    exact (nr h).elim
  | dsub =>
    obtain ⟨_, _, _, _, h⟩ := d2_inv hs
    exact (nr h).elim
  | dmul =>
    obtain ⟨_, _, _, _, h⟩ := d2_inv hs
    exact (nr h).elim
  | ddiv =>
    obtain ⟨_, _, _, _, h⟩ := d2_inv hs
    exact (nr h).elim
  | dcmp op =>
    obtain ⟨_, _, _, _, h⟩ := d2_inv hs
    exact (nr h).elim
  | idiv =>
    obtain ⟨_, _, _, _, h⟩ := i2_inv hs
    split at h
    · cases h
    · exact (nr h).elim
  | irem =>
    obtain ⟨_, _, _, _, h⟩ := i2_inv hs
    split at h
    · cases h
    · exact (nr h).elim
  | ldiv =>
    obtain ⟨_, _, _, _, h⟩ := j2_inv hs
    split at h
    · cases h
    · exact (nr h).elim
  | lrem =>
    obtain ⟨_, _, _, _, h⟩ := j2_inv hs
    split at h
    · cases h
    · exact (nr h).elim
  | dup =>
    have hs : am_dup st (pc + 1) la M = some (.inr (.inl ret)) := hs
    unfold am_dup at hs
    split at hs
    · split at hs
      · exact (nr hs).elim
      · cases hs
    · cases hs
  | dup2 =>
    have hs : am_dup2 st (pc + 1) la M = some (.inr (.inl ret)) := hs
    unfold am_dup2 at hs
    split at hs
    · split at hs
      · exact (nr hs).elim
      · cases hs
    · cases hs
  | ifCond cd n =>
    cases cd <;> (obtain ⟨_, _, _, h⟩ := i1_inv hs; exact (nr h).elim)
  | if_icmp cd n =>
    cases cd <;> (obtain ⟨_, _, _, _, h⟩ := i2_inv hs; exact (nr h).elim)
  | ifnull n =>
    have hs : am_nul st fa (pc + 3) la M = some (.inr (.inl ret)) := hs
    unfold am_nul at hs
    split at hs
    · exact (nr hs).elim
    · exact (nr hs).elim
    · cases hs
  | ifnonnull n =>
    have hs : am_nul st (pc + 3) fa la M = some (.inr (.inl ret)) := hs
    unfold am_nul at hs
    split at hs
    · exact (nr hs).elim
    · exact (nr hs).elim
    · cases hs
  | tableswitch a1 a2 a3 a4 =>
    obtain ⟨x, r, -, h⟩ := i1_inv hs
    split at h
    · exact (sn h).elim
    · split at h
      · exact (sn h).elim
      · cases h
  | getfield n =>
    obtain ⟨_, _, _, h⟩ := a1_inv hs
    obtain ⟨_, _, h⟩ := Option.bind_eq_some_iff.mp h
    exact (nr h).elim
  | putfield n =>
    obtain ⟨_, _, _, _, h⟩ := put_inv hs
    obtain ⟨_, _, h⟩ := Option.bind_eq_some_iff.mp h
    exact (nr h).elim
  | arraylength =>
    rcases aln_inv hs with ⟨_, _, _, h⟩ | ⟨_, _, _, h⟩ <;> (obtain ⟨_, _, h⟩ := Option.bind_eq_some_iff.mp h; exact (nr h).elim)
  | iaload =>
    rcases ial_inv hs with ⟨_, _, _, _, h⟩ | ⟨_, _, _, _, h⟩
    · obtain ⟨_, _, h⟩ := Option.bind_eq_some_iff.mp h
      exact (nr h).elim
    · obtain ⟨_, _, h⟩ := Option.bind_eq_some_iff.mp h
      split at h
      · cases h
      · exact (nr h).elim
  | baload =>
    obtain ⟨_, _, _, _, h⟩ := ia_inv hs
    obtain ⟨_, _, h⟩ := Option.bind_eq_some_iff.mp h
    exact (nr h).elim
  | laload =>
    obtain ⟨_, _, _, _, h⟩ := ia_inv hs
    obtain ⟨_, _, h⟩ := Option.bind_eq_some_iff.mp h
    exact (nr h).elim
  | daload =>
    obtain ⟨_, _, _, _, h⟩ := ia_inv hs
    obtain ⟨_, _, h⟩ := Option.bind_eq_some_iff.mp h
    exact (nr h).elim
  | aaload =>
    obtain ⟨_, _, _, _, h⟩ := ia_inv hs
    obtain ⟨_, _, h⟩ := Option.bind_eq_some_iff.mp h
    exact (nr h).elim
  | iastore =>
    obtain ⟨_, _, _, _, _, h⟩ := via_inv hs
    obtain ⟨_, _, h⟩ := Option.bind_eq_some_iff.mp h
    exact (nr h).elim
  | lastore =>
    obtain ⟨_, _, _, _, _, h⟩ := via_inv hs
    obtain ⟨_, _, h⟩ := Option.bind_eq_some_iff.mp h
    exact (nr h).elim
  | bastore =>
    obtain ⟨_, _, _, _, _, h⟩ := via_inv hs
    obtain ⟨_, _, h⟩ := Option.bind_eq_some_iff.mp h
    exact (nr h).elim
  | dastore =>
    obtain ⟨_, _, _, _, _, h⟩ := via_inv hs
    obtain ⟨_, _, h⟩ := Option.bind_eq_some_iff.mp h
    exact (nr h).elim
  | aastore =>
    obtain ⟨_, _, _, _, _, h⟩ := aas_inv hs
    obtain ⟨_, _, h⟩ := Option.bind_eq_some_iff.mp h
    exact (nr h).elim
  | newarray n =>
    obtain ⟨_, _, _, h⟩ := i1_inv hs
    split at h
    · cases h
    · exact (nr h).elim
  | anewarray n =>
    obtain ⟨_, _, _, h⟩ := i1_inv hs
    split at h
    · cases h
    · exact (nr h).elim
  | new n =>
    have hs : (if fa < 9 then am_nx (pc + 3) la (.ref M.1 :: st) (am_new M (am_nf fa).length (.inr (fa, am_nf fa))) else if am_wt st ≤ 8 then some (.inr (.inr (.inl fa))) else none) = some (.inr (.inl ret)) := hs
    split at hs
    · exact (nr hs).elim
    · split at hs
      · cases hs
      · cases hs
  | invokestatic n =>
    have hs : (if fa = 4 ∨ fa = 5 then am_cp fa st pc la M else if fa = 0 ∨ fa = 10 then am_inv fa fc v st M else none) = some (.inr (.inl ret)) := hs
    split at hs
    · exact (cp_fn (by intro c z; cases z) hs).elim
    · split at hs
      · exact (inv_fn (by intro c z; cases z) hs).elim
      · cases hs
  | invokespecial n =>
    have hs : (if fa = 3 then am_a1 st (fun _ r => if 8 < am_wt r then none else am_nx (pc + 3) la r M) else if fa = 2 ∨ fa = 12 then am_inv fa fc v st M else none) = some (.inr (.inl ret)) := hs
    split at hs
    · obtain ⟨_, _, _, h⟩ := a1_inv hs
      split at h
      · cases h
      · exact (nr h).elim
    · split at hs
      · exact (inv_fn (by intro c z; cases z) hs).elim
      · cases hs
  | invokevirtual n =>
    have hs : (if fa = 1 then am_inv fa fc v st M else none) = some (.inr (.inl ret)) := hs
    split at hs
    · exact (inv_fn (by intro c z; cases z) hs).elim
    · cases hs
  | ireturn =>
    have hs : am_rti st fc = some (.inr (.inl ret)) := hs
    unfold am_rti at hs
    split at hs
    · split at hs
      · cases hs
        exact Or.inl ⟨rfl, _, rfl, by assumption, rfl⟩
      · cases hs
    · cases hs
  | lreturn =>
    have hs : am_rtj st = some (.inr (.inl ret)) := hs
    unfold am_rtj at hs
    split at hs
    · cases hs
      exact Or.inr (Or.inl ⟨rfl, _, rfl, rfl⟩)
    · cases hs
  | dreturn =>
    have hs : am_rtd st = some (.inr (.inl ret)) := hs
    unfold am_rtd at hs
    split at hs
    · cases hs
      exact Or.inr (Or.inr (Or.inl ⟨rfl, _, rfl, rfl⟩))
    · cases hs
  | areturn =>
    have hs : am_rta st = some (.inr (.inl ret)) := hs
    unfold am_rta at hs
    split at hs
    · cases hs
      exact Or.inr (Or.inr (Or.inr (Or.inl ⟨rfl, _, rfl, rfl⟩)))
    · cases hs
      exact Or.inr (Or.inr (Or.inr (Or.inr (Or.inl ⟨rfl, rfl, rfl⟩))))
    · cases hs
  | return_ =>
    have hs : am_rtv st = some (.inr (.inl ret)) := hs
    unfold am_rtv at hs
    split at hs
    · cases hs
      exact Or.inr (Or.inr (Or.inr (Or.inr (Or.inr ⟨rfl, rfl, rfl⟩))))
    · cases hs
  | _ => exact absurd (show (none : Option am_O) = some (.inr (.inl ret)) from hs) (by intro z; cases z)
theorem inv_inv {as rest : List Value} (h : am_inv fa fc v st M = some (.inr (.inr (.inr (as, rest))))) : fc ≤ st.length ∧ am_wt (st.drop fc) ≤ 8 ∧ as = (st.take fc).reverse ∧ rest = st.drop fc ∧ (fa = 0 ∨ fa = 10 ∨ ∃ o t, as = .ref o :: t ∧ am_rcv (am_f M o) v = true) := by
  unfold am_inv at h
  split at h
  · rename_i h1
    split at h
    · rename_i h2
      cases h
      exact ⟨h1.1, h1.2, rfl, rfl, by omega⟩
    · split at h
      · rename_i o t e
        split at h
        · rename_i h3
          cases h
          exact ⟨h1.1, h1.2, rfl, rfl, Or.inr (Or.inr ⟨o, t, e, h3⟩)⟩
        · cases h
      · cases h
  · cases h
end OI
