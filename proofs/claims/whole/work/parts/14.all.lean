/-! every instruction that is no call, in one; what a run takes only grows -/
section SZ
variable {p : Program} {l : Launch} {e : Env} {R : Room} {s : State} {m : MethodId} {args : Array Value} {below : List Frame} {meth : Method} {c : Code} {H : Heap} {locs : List Loc} {Q : State → Prop}
variable {own : String} {cc : ByteArray} {nL : Nat} {ini : Bool} {D : va_G} {cT : List (ClassId × FieldType)} {b : Nat} {A : Nat → Prop} {L0 : List Nat} {la la' : am_L} {st st' : List Value} {M M' : am_M} {ls : Array Slot} {sr : List Value} {pc pc' : Nat} {d0 : Drawn} {kc0 ks0 : Nat}
variable {xs : Option (Nat × (Nat → Int32))} {fa fb fc w w2 len : Nat} {v : Value}
theorem am_sstep {i : Instr} (C : am_Cx p l R s m args meth c own cc nL ini D cT A) (hXs : am_Xs xs b A s) (hck : am_ck1 own nL ini i fa fb fc w w2 v pc = true) (hdec : decode cc pc = .ok (i, am_ln i len)) (hs : am_step xs i fa fb fc v pc la st M = some (.inl (pc', la', st', M'))) (hP : am_Pt D cT b A nL L0 s.heap la st M ls sr H locs) (hd0 : s.drawn.sameBut d0 lw_cs)
    (hk0 : kc0 ≤ M.2.1) (hs0 : ks0 ≤ M.2.2.1) (hRc : M'.2.1 - kc0 ≤ R.cells) (hRs : M'.2.2.1 - ks0 ≤ R.slots) (kk : am_KK p l e R s m args below meth c Q nL D cT b A L0 la' st' M' pc' kc0 ks0) :
    W p l e R (s.setDrawn d0) m args below meth c H locs (M.2.1 - kc0) (M.2.2.1 - ks0) Q (F0 m pc ls sr) := by
  cases i with
  | iconst n => exact st_iconst C hdec hs hP hd0 kk
  | bipush n => exact st_bipush C hdec hs hP hd0 kk
  | sipush n => exact st_sipush C hdec hs hP hd0 kk
  | lconst n => exact st_lconst C hdec hs hP hd0 kk
  | dconst n => exact st_dconst C hdec hs hP hd0 kk
  | aconst_null => exact st_aconst_null C hdec hs hP hd0 kk
  | ldc n => exact st_ldc C hck hdec hs hP hd0 kk
  | ldc_w n => exact st_ldc_w C hck hdec hs hP hd0 kk
  | ldc2_w n => exact st_ldc2_w C hck hdec hs hP hd0 kk
  | iload_n n => exact st_iload_n C hdec hs hP hd0 kk
  | iload n => exact st_iload C hdec hs hP hd0 kk
  | istore_n n => exact st_istore_n C hck hdec hs hP hd0 kk
  | istore n => exact st_istore C hck hdec hs hP hd0 kk
  | lload_n n => exact st_lload_n C hdec hs hP hd0 kk
  | lload n => exact st_lload C hdec hs hP hd0 kk
  | lstore_n n => exact st_lstore_n C hck hdec hs hP hd0 kk
  | lstore n => exact st_lstore C hck hdec hs hP hd0 kk
  | dload_n n => exact st_dload_n C hdec hs hP hd0 kk
  | dload n => exact st_dload C hdec hs hP hd0 kk
  | dstore_n n => exact st_dstore_n C hck hdec hs hP hd0 kk
  | dstore n => exact st_dstore C hck hdec hs hP hd0 kk
  | aload_n n => exact st_aload_n C hdec hs hP hd0 kk
  | aload n => exact st_aload C hdec hs hP hd0 kk
  | astore_n n => exact st_astore_n C hck hdec hs hP hd0 kk
  | astore n => exact st_astore C hck hdec hs hP hd0 kk
  | iinc k n => exact st_iinc C hck hdec hs hP hd0 kk
  | iadd => exact st_iadd C hdec hs hP hd0 kk
  | isub => exact st_isub C hdec hs hP hd0 kk
  | imul => exact st_imul C hdec hs hP hd0 kk
  | idiv => exact st_idiv C hdec hs hP hd0 kk
  | irem => exact st_irem C hdec hs hP hd0 kk
  | iand => exact st_iand C hdec hs hP hd0 kk
  | ixor => exact st_ixor C hdec hs hP hd0 kk
  | iushr => exact st_iushr C hdec hs hP hd0 kk
  | ladd => exact st_ladd C hdec hs hP hd0 kk
  | lsub => exact st_lsub C hdec hs hP hd0 kk
  | lmul => exact st_lmul C hdec hs hP hd0 kk
  | ldiv => exact st_ldiv C hdec hs hP hd0 kk
  | lrem => exact st_lrem C hdec hs hP hd0 kk
  | land => exact st_land C hdec hs hP hd0 kk
  | lor => exact st_lor C hdec hs hP hd0 kk
  | lxor => exact st_lxor C hdec hs hP hd0 kk
  | lneg => exact st_lneg C hdec hs hP hd0 kk
  | lshl => exact st_lshl C hdec hs hP hd0 kk
  | lcmp => exact st_lcmp C hdec hs hP hd0 kk
  | dadd => exact st_dadd C hdec hs hP hd0 kk
  | dsub => exact st_dsub C hdec hs hP hd0 kk
  | dmul => exact st_dmul C hdec hs hP hd0 kk
  | ddiv => exact st_ddiv C hdec hs hP hd0 kk
  | i2l => exact st_i2l C hdec hs hP hd0 kk
  | l2i => exact st_l2i C hdec hs hP hd0 kk
  | i2d => exact st_i2d C hdec hs hP hd0 kk
  | l2d => exact st_l2d C hdec hs hP hd0 kk
  | dup => exact st_dup C hdec hs hP hd0 kk
  | dup2 => exact st_dup2 C hdec hs hP hd0 kk
  | baload => exact st_baload C hdec hs hP hd0 kk
  | laload => exact st_laload C hdec hs hP hd0 kk
  | daload => exact st_daload C hdec hs hP hd0 kk
  | aaload => exact st_aaload C hdec hs hP hd0 kk
  | iastore => exact st_iastore C hdec hs hP hd0 kk
  | lastore => exact st_lastore C hdec hs hP hd0 kk
  | bastore => exact st_bastore C hdec hs hP hd0 kk
  | dastore => exact st_dastore C hdec hs hP hd0 kk
  | aastore => exact st_aastore C hdec hs hP hd0 kk
  | dcmp op => exact st_dcmp C hdec hs hP hd0 kk
  | goto n => exact st_goto C hck hdec hs hP hd0 kk
  | ifnull n => exact st_ifnull C hck hdec hs hP hd0 kk
  | ifnonnull n => exact st_ifnonnull C hck hdec hs hP hd0 kk
  | tableswitch a1 a2 a3 a4 => exact st_switch C hdec hs hP hd0 kk
  | getfield n => exact st_getfield C hck hdec hs hP hd0 kk
  | putfield n => exact st_putfield C hck hdec hs hP hd0 kk
  | ifCond cd n => cases cd with
    | eq => exact st_if_eq C hck hdec hs hP hd0 kk
    | ne => exact st_if_ne C hck hdec hs hP hd0 kk
    | lt => exact st_if_lt C hck hdec hs hP hd0 kk
    | ge => exact st_if_ge C hck hdec hs hP hd0 kk
    | gt => exact st_if_gt C hck hdec hs hP hd0 kk
    | le => exact st_if_le C hck hdec hs hP hd0 kk
  | if_icmp cd n => cases cd with
    | eq => exact st_icmp_eq C hck hdec hs hP hd0 kk
    | ne => exact st_icmp_ne C hck hdec hs hP hd0 kk
    | lt => exact st_icmp_lt C hck hdec hs hP hd0 kk
    | ge => exact st_icmp_ge C hck hdec hs hP hd0 kk
    | gt => exact st_icmp_gt C hck hdec hs hP hd0 kk
    | le => exact st_icmp_le C hck hdec hs hP hd0 kk
  | arraylength => exact st_arraylength C hXs hdec hs hP hd0 kk
  | iaload => exact st_iaload C hXs hdec hs hP hd0 kk
  | newarray n => exact st_newarray C hck hdec hs hP hd0 hk0 hs0 hRc hRs kk
  | anewarray n => exact st_anewarray C hck hdec hs hP hd0 hk0 hs0 hRc hRs kk
  | new n => exact st_new C hck hdec hs hP hd0 hk0 hs0 hRc hRs kk
  | invokestatic n => exact st_invokestatic C hck hdec hs hP hd0 kk
  | invokespecial n => exact st_invokespecial C hck hdec hs hP hd0 kk
  | invokevirtual n =>
    have hs : (if fa = 1 then am_inv fa fc v st M else none) = some (.inl (pc', la', st', M')) := hs
    split at hs
    · exact absurd hs inv_no
    · cases hs
  | ireturn =>
    have hs : am_rti st fc = some (.inl (pc', la', st', M')) := hs
    unfold am_rti at hs
    split at hs
    · split at hs <;> cases hs
    · cases hs
  | lreturn =>
    have hs : am_rtj st = some (.inl (pc', la', st', M')) := hs
    unfold am_rtj at hs
    split at hs <;> cases hs
  | dreturn =>
    have hs : am_rtd st = some (.inl (pc', la', st', M')) := hs
    unfold am_rtd at hs
    split at hs <;> cases hs
  | areturn =>
    have hs : am_rta st = some (.inl (pc', la', st', M')) := hs
    unfold am_rta at hs
    split at hs <;> cases hs
  | return_ =>
    have hs : am_rtv st = some (.inl (pc', la', st', M')) := hs
    unfold am_rtv at hs
    split at hs <;> cases hs
  | _ => exact absurd (show (none : Option am_O) = some (.inl (pc', la', st', M')) from hs) (by intro z; cases z)
def am_le (M M' : am_M) : Prop := M.2.1 ≤ M'.2.1 ∧ M.2.2.1 ≤ M'.2.2.1
theorem am_le.refl (M : am_M) : am_le M M := ⟨Nat.le_refl _, Nat.le_refl _⟩
theorem am_le.trans {M M' M'' : am_M} (h : am_le M M') (g : am_le M' M'') : am_le M M'' := ⟨Nat.le_trans h.1 g.1, Nat.le_trans h.2 g.2⟩
theorem le_nx {M1 : am_M} {x : am_O} {pc2 : Nat} {l2 : am_L} {st2 : List Value} (h : am_nx pc2 l2 st2 M1 = some x) (hM : am_le M M1) : ∀ pc' la' st' M', x = .inl (pc', la', st', M') → am_le M M' := by
  intro pc' la' st' M' e
  subst e
  obtain ⟨rfl, rfl, rfl, rfl⟩ := nx_inj h
  exact hM
theorem le_i1 {k : Int32 → List Value → Option am_O} {o : am_O} {P : am_O → Prop} (h : am_i1 st k = some o) (g : ∀ x r o, k x r = some o → P o) : P o := by
  obtain ⟨x, r, -, h2⟩ := i1_inv h; exact g _ _ _ h2
theorem le_step {i : Instr} (hs : am_step xs i fa fb fc v pc la st M = some (.inl (pc', la', st', M'))) : am_le M M' := by
  have nx : ∀ {pc2 : Nat} {l2 : am_L} {st2 : List Value} {M1 : am_M}, am_nx pc2 l2 st2 M1 = some (.inl (pc', la', st', M')) → am_le M M1 → am_le M M' := by
    intro pc2 l2 st2 M1 h hM
    obtain ⟨rfl, rfl, rfl, rfl⟩ := nx_inj h
    exact hM
  have rf := am_le.refl M
  have nr : ∀ {pc2 : Nat} {l2 : am_L} {st2 : List Value}, am_nx pc2 l2 st2 M = some (.inl (pc', la', st', M')) → am_le M M' := fun h => nx h rf
  cases i with
  | iconst n => exact nr hs
  | bipush n => exact nr hs
  | sipush n => exact nr hs
  | lconst n => exact nr hs
  | dconst n => exact nr hs
  | aconst_null => exact nr hs
  | goto n => exact nr hs
  | ldc n =>
    have hs : (if fa = 0 then am_nx (pc + 2) la (v :: st) M else none) = some (.inl (pc', la', st', M')) := hs
    split at hs
    · exact nr hs
    · cases hs
  | ldc_w n =>
    have hs : (if fa = 0 then am_nx (pc + 3) la (v :: st) M else none) = some (.inl (pc', la', st', M')) := hs
    split at hs
    · exact nr hs
    · cases hs
  | ldc2_w n =>
    have hs : (if fa = 0 then am_nx (pc + 3) la (v :: st) M else none) = some (.inl (pc', la', st', M')) := hs
    split at hs
    · exact nr hs
    · cases hs
  | iload_n n =>
    obtain ⟨_, _, h⟩ := ldi_inv hs
    exact nr h
  | iload n =>
    obtain ⟨_, _, h⟩ := ldi_inv hs
    exact nr h
  | lload_n n =>
    obtain ⟨_, _, h⟩ := ldj_inv hs
    exact nr h
  | lload n =>
    obtain ⟨_, _, h⟩ := ldj_inv hs
    exact nr h
  | dload_n n =>
    obtain ⟨_, _, h⟩ := ldd_inv hs
    exact nr h
  | dload n =>
    obtain ⟨_, _, h⟩ := ldd_inv hs
    exact nr h
  | aload_n n =>
    have hs : am_lda (am_lg la n) (pc + 1) la st M = some (.inl (pc', la', st', M')) := hs
    unfold am_lda at hs
    split at hs
    · exact nr hs
    · exact nr hs
    · exact nr hs
    · cases hs
  | aload n =>
    have hs : am_lda (am_lg la n) (pc + 2) la st M = some (.inl (pc', la', st', M')) := hs
    unfold am_lda at hs
    split at hs
    · exact nr hs
    · exact nr hs
    · exact nr hs
    · cases hs
  | istore_n n =>
    obtain ⟨_, _, _, h⟩ := i1_inv hs
    exact nr h
  | istore n =>
    obtain ⟨_, _, _, h⟩ := i1_inv hs
    exact nr h
  | lstore_n n =>
    obtain ⟨_, _, _, h⟩ := j1_inv hs
    exact nr h
  | lstore n =>
    obtain ⟨_, _, _, h⟩ := j1_inv hs
    exact nr h
  | dstore_n n =>
    obtain ⟨_, _, _, h⟩ := d1_inv hs
    exact nr h
  | dstore n =>
    obtain ⟨_, _, _, h⟩ := d1_inv hs
    exact nr h
  | lneg =>
    obtain ⟨_, _, _, h⟩ := j1_inv hs
    exact nr h
  | i2l =>
    obtain ⟨_, _, _, h⟩ := i1_inv hs
    exact nr h
  | l2i =>
    obtain ⟨_, _, _, h⟩ := j1_inv hs
    exact nr h
  | i2d =>
    obtain ⟨_, _, _, h⟩ := i1_inv hs
    exact nr h
  | l2d =>
    obtain ⟨_, _, _, h⟩ := j1_inv hs
    exact nr h
  | astore_n n =>
    have hs : am_sta n (pc + 1) la st M = some (.inl (pc', la', st', M')) := hs
    unfold am_sta at hs
    split at hs
    · exact nr hs
    · exact nr hs
    · exact nr hs
    · exact nr hs
    · cases hs
  | astore n =>
    have hs : am_sta n (pc + 2) la st M = some (.inl (pc', la', st', M')) := hs
    unfold am_sta at hs
    split at hs
    · exact nr hs
    · exact nr hs
    · exact nr hs
    · exact nr hs
    · cases hs
  | iinc k n =>
    have hs : am_inc (am_lg la k) k (Int32.ofInt n) (pc + 3) la st M = some (.inl (pc', la', st', M')) := hs
    unfold am_inc at hs
    split at hs
    · exact nr hs
    · cases hs
  | iadd =>
    obtain ⟨_, _, _, _, h⟩ := i2_inv hs
    exact nr h
  | isub =>
    obtain ⟨_, _, _, _, h⟩ := i2_inv hs
    exact nr h
  | imul =>
    obtain ⟨_, _, _, _, h⟩ := i2_inv hs
    exact nr h
  | iand =>
    obtain ⟨_, _, _, _, h⟩ := i2_inv hs
    exact nr h
  | ixor =>
    obtain ⟨_, _, _, _, h⟩ := i2_inv hs
    exact nr h
  | iushr =>
    obtain ⟨_, _, _, _, h⟩ := i2_inv hs
    exact nr h
  | ladd =>
    obtain ⟨_, _, _, _, h⟩ := j2_inv hs
    exact nr h
  | lsub =>
    obtain ⟨_, _, _, _, h⟩ := j2_inv hs
    exact nr h
  | lmul =>
    obtain ⟨_, _, _, _, h⟩ := j2_inv hs
    exact nr h
  | land =>
    obtain ⟨_, _, _, _, h⟩ := j2_inv hs
    exact nr h
  | lor =>
    obtain ⟨_, _, _, _, h⟩ := j2_inv hs
    exact nr h
  | lxor =>
    obtain ⟨_, _, _, _, h⟩ := j2_inv hs
    exact nr h
  | lcmp =>
    obtain ⟨_, _, _, _, h⟩ := j2_inv hs
    exact nr h
  | lshl =>
    obtain ⟨_, _, _, _, h⟩ := ij_inv hs
    exact nr h
  | dadd =>
    obtain ⟨_, _, _, _, h⟩ := d2_inv hs
    exact nr h
  | dsub =>
    obtain ⟨_, _, _, _, h⟩ := d2_inv hs
    exact nr h
  | dmul =>
    obtain ⟨_, _, _, _, h⟩ := d2_inv hs
    exact nr h
  | ddiv =>
    obtain ⟨_, _, _, _, h⟩ := d2_inv hs
    exact nr h
  | dcmp op =>
    obtain ⟨_, _, _, _, h⟩ := d2_inv hs
    exact nr h
  | idiv =>
    obtain ⟨_, _, _, _, h⟩ := i2_inv hs
    split at h
    · cases h
    · exact nr h
  | irem =>
    obtain ⟨_, _, _, _, h⟩ := i2_inv hs
    split at h
    · cases h
    · exact nr h
  | ldiv =>
    obtain ⟨_, _, _, _, h⟩ := j2_inv hs
    split at h
    · cases h
    · exact nr h
  | lrem =>
    obtain ⟨_, _, _, _, h⟩ := j2_inv hs
    split at h
    · cases h
    · exact nr h
  | dup =>
    have hs : am_dup st (pc + 1) la M = some (.inl (pc', la', st', M')) := hs
    unfold am_dup at hs
    split at hs
    · split at hs
      · exact nr hs
      · cases hs
    · cases hs
  | dup2 =>
    have hs : am_dup2 st (pc + 1) la M = some (.inl (pc', la', st', M')) := hs
    unfold am_dup2 at hs
    split at hs
    · split at hs
      · exact nr hs
      · cases hs
    · cases hs
  | ifCond cd n =>
    cases cd <;> (obtain ⟨_, _, _, h⟩ := i1_inv hs; exact nr h)
  | if_icmp cd n =>
    cases cd <;> (obtain ⟨_, _, _, _, h⟩ := i2_inv hs; exact nr h)
  | ifnull n =>
    have hs : am_nul st fa (pc + 3) la M = some (.inl (pc', la', st', M')) := hs
    unfold am_nul at hs
    split at hs
    · exact nr hs
    · exact nr hs
    · cases hs
  | ifnonnull n =>
    have hs : am_nul st (pc + 3) fa la M = some (.inl (pc', la', st', M')) := hs
    unfold am_nul at hs
    split at hs
    · exact nr hs
    · exact nr hs
    · cases hs
  | tableswitch a1 a2 a3 a4 =>
    obtain ⟨x, r, -, h⟩ := i1_inv hs
    split at h
    · obtain ⟨_, _, _, rfl⟩ := sw_inv h
      exact rf
    · split at h
      · obtain ⟨_, _, _, rfl⟩ := sw_inv h
        exact rf
      · cases h
  | getfield n =>
    obtain ⟨_, _, _, h⟩ := a1_inv hs
    obtain ⟨_, _, h⟩ := Option.bind_eq_some_iff.mp h
    exact nr h
  | putfield n =>
    obtain ⟨_, _, _, _, h⟩ := put_inv hs
    obtain ⟨_, _, h⟩ := Option.bind_eq_some_iff.mp h
    exact nx h rf
  | arraylength =>
    rcases aln_inv hs with ⟨_, _, _, h⟩ | ⟨_, _, _, h⟩ <;> (obtain ⟨_, _, h⟩ := Option.bind_eq_some_iff.mp h; exact nr h)
  | iaload =>
    rcases ial_inv hs with ⟨_, _, _, _, h⟩ | ⟨_, _, _, _, h⟩
    · obtain ⟨_, _, h⟩ := Option.bind_eq_some_iff.mp h
      exact nr h
    · obtain ⟨_, _, h⟩ := Option.bind_eq_some_iff.mp h
      split at h
      · cases h
      · exact nr h
  | baload =>
    obtain ⟨_, _, _, _, h⟩ := ia_inv hs
    obtain ⟨_, _, h⟩ := Option.bind_eq_some_iff.mp h
    exact nr h
  | laload =>
    obtain ⟨_, _, _, _, h⟩ := ia_inv hs
    obtain ⟨_, _, h⟩ := Option.bind_eq_some_iff.mp h
    exact nr h
  | daload =>
    obtain ⟨_, _, _, _, h⟩ := ia_inv hs
    obtain ⟨_, _, h⟩ := Option.bind_eq_some_iff.mp h
    exact nr h
  | aaload =>
    obtain ⟨_, _, _, _, h⟩ := ia_inv hs
    obtain ⟨_, _, h⟩ := Option.bind_eq_some_iff.mp h
    exact nr h
  | iastore =>
    obtain ⟨_, _, _, _, _, h⟩ := via_inv hs
    obtain ⟨_, _, h⟩ := Option.bind_eq_some_iff.mp h
    exact nx h rf
  | lastore =>
    obtain ⟨_, _, _, _, _, h⟩ := via_inv hs
    obtain ⟨_, _, h⟩ := Option.bind_eq_some_iff.mp h
    exact nx h rf
  | bastore =>
    obtain ⟨_, _, _, _, _, h⟩ := via_inv hs
    obtain ⟨_, _, h⟩ := Option.bind_eq_some_iff.mp h
    exact nx h rf
  | dastore =>
    obtain ⟨_, _, _, _, _, h⟩ := via_inv hs
    obtain ⟨_, _, h⟩ := Option.bind_eq_some_iff.mp h
    exact nx h rf
  | aastore =>
    obtain ⟨_, _, _, _, _, h⟩ := aas_inv hs
    obtain ⟨_, _, h⟩ := Option.bind_eq_some_iff.mp h
    exact nx h rf
  | newarray n =>
    obtain ⟨_, _, _, h⟩ := i1_inv hs
    split at h
    · cases h
    · exact nx h ⟨Nat.le_succ _, Nat.le_add_right _ _⟩
  | anewarray n =>
    obtain ⟨_, _, _, h⟩ := i1_inv hs
    split at h
    · cases h
    · exact nx h ⟨Nat.le_succ _, Nat.le_add_right _ _⟩
  | new n =>
    have hs : (if fa < 9 then am_nx (pc + 3) la (.ref M.1 :: st) (am_new M (am_nf fa).length (.inr (fa, am_nf fa))) else if am_wt st ≤ 8 then some (.inr (.inr (.inl fa))) else none) = some (.inl (pc', la', st', M')) := hs
    split at hs
    · exact nx hs ⟨Nat.le_succ _, Nat.le_add_right _ _⟩
    · split at hs <;> cases hs
  | invokestatic n =>
    have hs : (if fa = 4 ∨ fa = 5 then am_cp fa st pc la M else if fa = 0 ∨ fa = 10 then am_inv fa fc v st M else none) = some (.inl (pc', la', st', M')) := hs
    split at hs
    · obtain ⟨_, _, _, _, _, _, _, _, _, _, h⟩ := cp_inv hs
      exact nx h rf
    · split at hs
      · exact absurd hs inv_no
      · cases hs
  | invokespecial n =>
    have hs : (if fa = 3 then am_a1 st (fun _ r => if 8 < am_wt r then none else am_nx (pc + 3) la r M) else if fa = 2 ∨ fa = 12 then am_inv fa fc v st M else none) = some (.inl (pc', la', st', M')) := hs
    split at hs
    · obtain ⟨_, _, _, h⟩ := a1_inv hs
      split at h
      · cases h
      · exact nr h
    · split at hs
      · exact absurd hs inv_no
      · cases hs
  | invokevirtual n =>
    have hs : (if fa = 1 then am_inv fa fc v st M else none) = some (.inl (pc', la', st', M')) := hs
    split at hs
    · exact absurd hs inv_no
    · cases hs
  | ireturn =>
    have hs : am_rti st fc = some (.inl (pc', la', st', M')) := hs
    unfold am_rti at hs
    split at hs
    · split at hs <;> cases hs
    · cases hs
  | lreturn =>
    have hs : am_rtj st = some (.inl (pc', la', st', M')) := hs
    unfold am_rtj at hs
    split at hs <;> cases hs
  | dreturn =>
    have hs : am_rtd st = some (.inl (pc', la', st', M')) := hs
    unfold am_rtd at hs
    split at hs <;> cases hs
  | areturn =>
    have hs : am_rta st = some (.inl (pc', la', st', M')) := hs
    unfold am_rta at hs
    split at hs <;> cases hs
  | return_ =>
    have hs : am_rtv st = some (.inl (pc', la', st', M')) := hs
    unfold am_rtv at hs
    split at hs <;> cases hs
  | _ => exact absurd (show (none : Option am_O) = some (.inl (pc', la', st', M')) from hs) (by intro z; cases z)
theorem le_run {n : Nat} : ∀ {d xs k pc la st M r}, am_run n d xs k pc la st M = some r → am_le M r.2 := by
  induction n with
  | zero => intro d xs k pc la st M r h; simp [am_run] at h
  | succ n ih =>
    intro d xs k pc la st M r h
    cases hq : am_at k pc with
    | none => simp [am_run, hq] at h
    | some q =>
      cases hs : am_step xs q.2.1 q.2.2.2.1 q.2.2.2.2.1 q.2.2.2.2.2.1 q.2.2.2.2.2.2.2.2 pc la st M with
      | none => simp [am_run, hq, hs] at h
      | some o =>
        match o, hs with
        | .inl (pc', la', st', M'), hs =>
          simp only [am_run, hq, hs] at h
          exact (le_step hs).trans (ih h)
        | .inr (.inl v), hs =>
          simp only [am_run, hq, hs] at h
          cases h
          exact am_le.refl _
        | .inr (.inr (.inl E)), hs =>
          simp only [am_run, hq, hs] at h
          cases h
          exact ⟨Nat.le_add_right _ _, Nat.le_add_right _ _⟩
        | .inr (.inr (.inr (as, rest))), hs =>
          simp only [am_run, hq, hs] at h
          cases d with
          | zero => simp at h
          | succ d' =>
            simp only at h
            split at h
            case isFalse => cases h
            cases hw : am_run n d' none q.2.2.2.2.1 0 (lv_args 0 as) [] M with
            | none => simp [hw] at h
            | some o2 =>
              simp only [hw] at h
              match o2, hw, h with
              | (.inl w, M'), hw, h => exact (ih hw).trans (ih h)
              | (.inr E, M'), hw, h =>
                simp only at h
                cases hh : am_hd k pc E with
                | none =>
                  simp only [hh] at h
                  split at h
                  · cases h
                    exact ih hw
                  · cases h
                | some p =>
                  simp only [hh] at h
                  exact (ih hw).trans (ih h)
end SZ
