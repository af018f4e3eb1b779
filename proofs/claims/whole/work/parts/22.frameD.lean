section FD
variable {p : Program} {l : Launch} {e : Env} {R : Room} {s : State} {m : MethodId} {args : Array Value} {below : List Frame} {meth : Method} {c : Code} {Q : State → Prop}
variable {k N : Nat} {D : va_G} {cT : List (ClassId × FieldType)} {b : Nat} {A : Nat → Prop} {L0 : List Nat} {kc0 ks0 : Nat} {xs : Option (Nat × (Nat → Int32))}
theorem am_wrap {H : Heap} {locs : List Loc} {cells slots mc ms : Nat} {d0 : Drawn} {g : JFrame} {Qc : Array Value → State → Outcome → State → Prop} {XC : String → State → State → Prop} {free : Addr → Prop} (hd0 : s.drawn.sameBut d0 lw_cs)
    (k : W p l e R (s.setDrawn d0) m args below meth c H locs cells slots (vx_MQ below Qc XC args (s.setDrawn d0) mc ms free) g) : W p l e R (s.setDrawn d0) m args below meth c H locs cells slots (am_MQX lw_cs below Qc XC args s mc ms free) g := by
  intro T hT X
  obtain ⟨t, a1, b1⟩ := k T hT X
  exact ⟨t, a1, d0, hd0, b1⟩
theorem am_wrapX {H : Heap} {locs : List Loc} {cells slots mc ms : Nat} {d0 : Drawn} {g : JFrame} {q : Addr} {Qc : Array Value → State → Outcome → State → Prop} {XC : String → State → State → Prop} {free : Addr → Prop} (hd0 : s.drawn.sameBut d0 lw_cs)
    (k : vx_W p l e R (s.setDrawn d0) m args below meth c H locs cells slots (vx_MQ below Qc XC args (s.setDrawn d0) mc ms free) g q) : vx_W p l e R (s.setDrawn d0) m args below meth c H locs cells slots (am_MQX lw_cs below Qc XC args s mc ms free) g q := by
  intro T hT X
  obtain ⟨t, a1, b1⟩ := k T hT X
  exact ⟨t, a1, d0, hd0, b1⟩
/-- the end by a return: the values below, the words' check -/
theorem am_retW (C : am_Ck p l R s m args meth c k D cT A) (hret : meth.sig.returnType = (am_mq k).2.2.2.1) {pc : Nat} {la : am_L} {st : List Value} {M : am_M} {q : am_I} {v : Option Value} (hpc : q.1 = pc) (hcki : am_cki k q = true)
    (hs : am_step xs q.2.1 q.2.2.2.1 q.2.2.2.2.1 q.2.2.2.2.2.1 q.2.2.2.2.2.2.2.2 pc la st M = some (.inr (.inl v))) {ws : va_W} {sr : List Value} {ls : Array Slot} {H : Heap} {locs : List Loc} {cells slots : Nat} {d0 : Drawn} {Qc : Array Value → State → Outcome → State → Prop} {XC : String → State → State → Prop} {free : Addr → Prop}
    (hSR : am_SR (am_VR b (am_la ws)) st sr) (hq : ∀ (rv : Option Value) (t : State), am_SR (am_VR b (am_la ws)) v.toList rv.toList → t.heap = H → Qc args (s.setDrawn d0) (.returned rv) t) (hf : ∀ z ∈ locs, free z.base) :
    W p l e R (s.setDrawn d0) m args below meth c H locs cells slots (vx_MQ below Qc XC args (s.setDrawn d0) cells slots free) (F0 m pc ls sr) := by
  obtain ⟨hx, hb, hml, hown, hts, hlk, hK, hZ, hA, hini, hRf, hRl, hst⟩ := C
  simp only [am_cki, Bool.and_eq_true, decide_eq_true_eq] at hcki
  obtain ⟨⟨hdec, -⟩, hck2⟩ := hcki
  rw [hpc] at hdec hck2
  refine vx_ret ?_
  rcases ret_inv hs with ⟨hi, x, rfl, hok, rfl⟩ | ⟨hi, x, rfl, rfl⟩ | ⟨hi, x, rfl, rfl⟩ | ⟨hi, x, rfl, rfl⟩ | ⟨hi, rfl, rfl⟩ | ⟨hi, rfl, rfl⟩
  · rw [hi] at hdec hck2
    obtain ⟨r', rfl, hr⟩ := sr_i hSR
    cases r' with
    | cons a r' => exact hr.elim
    | nil =>
      simp only [am_ck2, Bool.or_eq_true, Bool.and_eq_true, beq_iff_eq, decide_eq_true_eq] at hck2
      rcases hck2 with ⟨h0, h1⟩ | ⟨h0, h1⟩
      · exact W.iret hx hb (by rw [hret, h1]) (fun t ht _ => hq _ t ⟨rfl, trivial⟩ ht) hf hdec hlk
      · rw [h0] at hok
        refine W.zret (ty := .boolean) hx hb (by rw [hret, h1]) ?_ (fun t ht _ => hq _ t ⟨rfl, trivial⟩ ht) hf hdec hlk
        simp only [am_ok, Bool.or_eq_true, Bool.and_eq_true, beq_iff_eq] at hok
        rcases hok with hok | ⟨-, rfl | rfl⟩
        · cases hok
        · rfl
        · rfl
  · rw [hi] at hdec hck2
    obtain ⟨r', rfl, hr⟩ := sr_j hSR
    cases r' with
    | cons a r' => exact hr.elim
    | nil =>
      simp only [am_ck2, decide_eq_true_eq] at hck2
      exact W.lret hx hb (by rw [hret, hck2]) (fun t ht _ => hq _ t ⟨rfl, trivial⟩ ht) hf hdec hlk
  · rw [hi] at hdec hck2
    obtain ⟨y, r', rfl, hy, hr⟩ := sr_d hSR
    cases r' with
    | cons a r' => exact hr.elim
    | nil =>
      simp only [am_ck2, decide_eq_true_eq] at hck2
      exact W.dret hx hb (by rw [hret, hck2]) (fun t ht _ => hq _ t ⟨⟨y, rfl, hy⟩, trivial⟩ ht) hf hdec hlk
  · rw [hi] at hdec hck2
    obtain ⟨y, r', rfl, hy, hr⟩ := sr_a hSR
    cases r' with
    | cons a r' => exact hr.elim
    | nil =>
      obtain ⟨rt, h1, h2⟩ : ∃ rt, (am_mq k).2.2.2.1 = some rt ∧ ((∃ n, rt = .object n) ∨ ∃ t, rt = .array t) := by
        simp only [am_ck2] at hck2
        split at hck2
        · rename_i n e; exact ⟨_, e, Or.inl ⟨n, rfl⟩⟩
        · rename_i n e; exact ⟨_, e, Or.inr ⟨n, rfl⟩⟩
        · cases hck2
      exact W.aret hx hb (by rw [hret, h1]) h2 (Or.inr ⟨y, rfl⟩) (fun t ht _ => hq _ t ⟨⟨y, hy, rfl⟩, trivial⟩ ht) hf hdec hlk
  · rw [hi] at hdec hck2
    obtain ⟨r', rfl, hr⟩ := sr_n hSR
    cases r' with
    | cons a r' => exact hr.elim
    | nil =>
      obtain ⟨rt, h1, h2⟩ : ∃ rt, (am_mq k).2.2.2.1 = some rt ∧ ((∃ n, rt = .object n) ∨ ∃ t, rt = .array t) := by
        simp only [am_ck2] at hck2
        split at hck2
        · rename_i n e; exact ⟨_, e, Or.inl ⟨n, rfl⟩⟩
        · rename_i n e; exact ⟨_, e, Or.inr ⟨n, rfl⟩⟩
        · cases hck2
      exact W.aret hx hb (by rw [hret, h1]) h2 (Or.inl rfl) (fun t ht _ => hq _ t ⟨rfl, trivial⟩ ht) hf hdec hlk
  · rw [hi] at hdec hck2
    cases sr with
    | cons a r' => exact hSR.elim
    | nil =>
      simp only [am_ck2, decide_eq_true_eq] at hck2
      exact W.vret hx hb (by rw [hret, hck2]) (fun t ht _ => hq _ t trivial ht) hf hdec hlk
/-- the end by a throw -/
theorem am_thrW (C : am_Ck p l R s m args meth c k D cT A) (hck : am_chb k = true) (htab : c.exceptionTable.toList = tableOf (am_mq k).2.2.2.2.1) {pc : Nat} {la : am_L} {st : List Value} {M : am_M} {q : am_I} {E : Nat} (hpc : q.1 = pc) (hcki : am_cki k q = true)
    (hs : am_step xs q.2.1 q.2.2.2.1 q.2.2.2.2.1 q.2.2.2.2.2.1 q.2.2.2.2.2.2.2.2 pc la st M = some (.inr (.inr (.inl E)))) {ws : va_W} {sr : List Value} {ls : Array Slot} {H : Heap} {locs : List Loc} {cells slots mc ms : Nat} {d0 : Drawn} {Qc : Array Value → State → Outcome → State → Prop} {XC : String → State → State → Prop} {free : Addr → Prop}
    (hSR : am_SR (am_VR b (am_la ws)) st sr) (hsz : ls.size = c.maxLocals) (hSS : va_S A s.heap H locs)
    (hq : ∀ t : State, H.size ≤ t.heap.size → (∀ q : Nat, q < H.size → t.heap[q]? = H[q]?) → XC (am_exn E) (s.setDrawn d0) t) (hf : ∀ z ∈ locs, free z.base) (hRc : cells + 1 ≤ R.cells) (hRs : slots + 6 ≤ R.slots) (hc : cells + 1 ≤ mc) (hs9 : slots + 6 ≤ ms) :
    W p l e R (s.setDrawn d0) m args below meth c H locs cells slots (vx_MQ below Qc XC args (s.setDrawn d0) mc ms free) (F0 m pc ls sr) := by
  obtain ⟨hx, hb, hml, hown, hts, hlk, hK, hZ, hA, hini, hRf, hRl, hst⟩ := C
  simp only [am_cki, Bool.and_eq_true, decide_eq_true_eq] at hcki
  obtain ⟨⟨hdec, -⟩, hck2⟩ := hcki
  rw [hpc] at hdec hck2
  obtain ⟨⟨idx, hi⟩, h9, hwt, hE⟩ := thr_inv hs
  have htd : ∀ w ∈ am_ws, w.before args (s.setDrawn d0) = true := dr_words hts d0
  have hKd : am_K D cT (s.setDrawn d0) := am_K_same (s := s) (U := s.setDrawn d0) rfl hK
  generalize q.2.2.2.1 = fa at *
  generalize q.2.2.2.2.1 = fb at *
  subst hE
  rw [hi] at hdec hck2
  simp only [am_ck2, if_neg h9, Bool.and_eq_true, Bool.or_eq_true, decide_eq_true_eq, List.any_eq_true] at hck2
  obtain ⟨⟨⟨⟨hnil, hthr⟩, ⟨sq, hsq, hs1, hs2⟩⟩, hdup⟩, hdecs⟩ := hck2
  have hokT := am_thr_ok _ hthr
  simp only [am_okT, Bool.and_eq_true, List.all_eq_true] at hokT
  obtain ⟨⟨⟨t1, t2⟩, t3⟩, t4⟩ := hokT
  obtain ⟨x0, x1, x2, x5⟩ := am_rx_ok fa
  obtain ⟨sa, hsa⟩ := hKd.2.2.2.1 sq hsq
  rw [hs1, hs2] at hsa
  have hout : ∀ (z : Nat), ∀ x ∈ c.exceptionTable.toList, covers x z = false := by
    intro z x hx9
    rw [htab, List.isEmpty_iff.mp hnil] at hx9
    cases hx9
  have hgood : ∀ w ∈ Cond.classLink (am_mq k).1.cls idx (am_exn fa) :: Cond.initialized (am_exn fa) :: (Bundle.ownAtomsX (am_mq k).1.cls q.2.2.2.2.2.2.2.1 (am_exn fa) (am_ix fa) (am_rx fa) am_exs).filter vx_no, vx_ot w = true := by
    intro w hw
    rcases List.mem_cons.mp hw with rfl | hw
    · exact (am_in_of t1).2
    · rcases List.mem_cons.mp hw with rfl | hw
      · exact (am_in_of t2).2
      · exact (am_in_of (t3 w hw)).2
  have hZd : am_Z A (s.setDrawn d0) (s.setDrawn d0).heap := am_Z_moved (u := s) (U := s.setDrawn d0) (State.WarmedH.refl s).alike hZ
  have hRl2 : (sr.map fun v => v.category).sum + (13 * (am_exs.length + 1) + 43) ≤ R.locals := by
    rw [hSR.wt]
    show am_wt st + (13 * (2 + 1) + 43) ≤ R.locals
    omega
  have hRf2 : am_exs.length + 3 < R.frames := by
    show 2 + 3 < R.frames
    omega
  rcases hdecs with ⟨⟨e4, e6⟩, e9⟩ | ⟨⟨e4, e6⟩, e9⟩
  · exact am_throw (s := s.setDrawn d0) (n := 6) hx hb hst x0 x1 x2 x5 hown t4 am_exs_ok (am_any htd hKd (am_in_of t1).1) (am_any htd hKd (am_in_of t2).1) hsa (fun w hw => am_any htd hKd (am_in_of (t3 w hw)).1) hgood
      hZd.1 hZd.2 hSS hsz hdec hdup (Or.inl ⟨rfl, e4⟩) e6 e9 (hout _) hRf2 hRl2 hRc hRs hlk (fun t _ h1 h2 => hq t h1 h2) hf hc hs9
  · exact am_throw (s := s.setDrawn d0) (n := 7) hx hb hst x0 x1 x2 x5 hown t4 am_exs_ok (am_any htd hKd (am_in_of t1).1) (am_any htd hKd (am_in_of t2).1) hsa (fun w hw => am_any htd hKd (am_in_of (t3 w hw)).1) hgood
      hZd.1 hZd.2 hSS hsz hdec hdup (Or.inr ⟨rfl, e4⟩) e6 e9 (hout _) hRf2 hRl2 hRc hRs hlk (fun t _ h1 h2 => hq t h1 h2) hf hc hs9
/-- a method's contract out of its callees' -/
theorem am_meth {l : Launch} (hst : l.stackTraces = false) (hbb : ∀ k', k' < 233 → am_chb k' = true) (hcc : ∀ k', k' < 232 → am_chc k' = true) (HP : ∀ n, n < N → ∀ k', k' < 232 → am_P l D cT n k') (hk : k < 232) : am_P l D cT N k := by
  intro d as M r ra b sz ws h hwt hra
  obtain ⟨c1, c2, c3, c4, c5, c6⟩ := am_chc_in (hcc k hk)
  have hck := hbb k (Nat.lt_succ_of_lt hk)
  have body : ∀ p e s m args below meth c s₁, BodyLoose p l (am_mq k).1 (headSpec (am_cw k :: am_ws) (am_rm d (r.2.2.1 - M.2.1) (r.2.2.2.1 - M.2.2.1))) (am_mq k).2.1 (am_mq k).2.2.1 (am_mq k).2.2.2.1 e s m args below meth c s₁ → c.maxLocals = (am_mq k).2.2.1 → c.exceptionTable.toList = tableOf (am_mq k).2.2.2.2.1 → am_Pc D cT b M ws sz ra args s →
      W p l e (am_rm d (r.2.2.1 - M.2.1) (r.2.2.2.1 - M.2.2.1)) (s.setDrawn s.drawn) m args below meth c s.heap [] 0 0 (am_MQX lw_cs below (am_Qc D cT b r.2 ws sz r.1) (am_XC D cT b r.2 ws sz r.1) args s (r.2.2.1 - M.2.1) (r.2.2.2.1 - M.2.2.1) (am_Ax ws sz)) (entryFrame m args (am_mq k).2.2.1) := by
    intro p e s m args below meth c s₁ B hml htab hP
    obtain ⟨rfl, rfl, hWd, hK, hZ⟩ := hP
    have hA : ∀ q, s.heap.size ≤ q → am_Ax ws s.heap.size q := fun q h => Or.inr h
    have hts : ∀ w ∈ am_ws, w.before ra.toArray s = true := fun w hw => atoms_spec (ws := am_cw k :: am_ws) B.pre w (List.mem_cons_of_mem _ hw)
    have hini : decide ((am_mq k).1.name = "<init>") = true → meth.name = "<init>" := fun h => by
      rw [(name_of_methodNamed B.named B.method).1]
      exact of_decide_eq_true h
    have C : am_Ck p l (am_rm d (r.2.2.1 - M.2.1) (r.2.2.2.1 - M.2.2.1)) s m ra.toArray meth c k D cT (am_Ax ws s.heap.size) :=
      ⟨B.exec, B.bytes, hml, findClass_of_methodNamed B.named, hts, B.notSynchronized, hK, hZ, hA, hini, Nat.le_add_left _ _, Nat.le_trans (by decide) (Nat.le_add_left 300 (60 * d)), hst⟩
    have hret : meth.sig.returnType = (am_mq k).2.2.2.1 := B.returns
    have hWA : am_Wd D cT b (am_Ax ws s.heap.size) M ws s.heap := hWd.weaken fun q hq => Or.inl hq
    have hlen : (lg_sl ra).length ≤ (am_mq k).2.2.1 := by
      rw [lg_len, hra.wt, ← c6]
      exact hwt
    rw [lg_entry_eq]
    have hle := le_run h
    have e0 : M.2.1 - M.2.1 = 0 := Nat.sub_self _
    have e1 : M.2.2.1 - M.2.2.1 = 0 := Nat.sub_self _
    refine W.cs e0.symm e1.symm ?_
    refine am_frame (xs := none) (N := N) (L0 := am_la ws) (kc0 := M.2.1) (ks0 := M.2.2.1) (b := b) (A := am_Ax ws s.heap.size) C (fun q hq => by cases hq) hck (Or.inr htab) hcc HP r ?_ ?_ ?_ (Nat.le_refl _) (Nat.le_refl _) N (Nat.le_refl _) d 0 (lv_args 0 as) [] M h (Nat.le_refl _) (Nat.le_refl _) (Nat.le_refl _) (Nat.le_refl _)
      s.drawn _ [] s.heap [] (Drawn.sameBut.refl _ _) ⟨lv_args 0 ra, ws, lv_entry ra hlen, am_TR.args 0 hra, trivial, hWA, va_S.rf, am_pre.refl _⟩
    · intro pc la st M' q v hq hs hr d0 ls sr H locs hd0 hP
      obtain ⟨lr, ws', hlv, hTR, hSR, hW, hSS, hpre⟩ := hP
      obtain ⟨hpc, hcki⟩ := am_at_ck hck hq
      subst hr
      refine am_wrap hd0 (am_retW C hret hpc hcki hs hSR (fun rv t hrv ht => ?_) hSS.2.2)
      exact ⟨v, rv, ws', rfl, rfl, hrv, by rw [ht]; exact hW, hpre, va_S.F (s := s.setDrawn d0) hSS ht⟩
    · intro pc la st M' q E hq hs hr hk0 hs0 d0 ls sr H locs hd0 hP
      obtain ⟨lr, ws', hlv, hTR, hSR, hW, hSS, hpre⟩ := hP
      obtain ⟨hpc, hcki⟩ := am_at_ck hck hq
      subst hr
      have g1 : M'.2.1 - M.2.1 + 1 ≤ M'.2.1 + 1 - M.2.1 := by clear C hck hcki htab hlen c5 c6 hwt; omega
      have g2 : M'.2.2.1 - M.2.2.1 + 6 ≤ M'.2.2.1 + 6 - M.2.2.1 := by clear C hck hcki htab hlen c5 c6 hwt; omega
      refine am_wrap hd0 (am_thrW C hck htab hpc hcki hs hSR (by rw [hlv.1]; exact hml.symm) hSS (fun t h1 h2 => ?_) hSS.2.2 g1 g2 g1 g2)
      refine ⟨E, ws', rfl, rfl, (hW.kept h2).pay 1 6, hpre, Nat.le_trans hSS.1 h1, fun q hq hn => ?_⟩
      rw [h2 q (Nat.lt_of_lt_of_le hq hSS.1)]
      exact hSS.2.1 q hq hn
    · intro E M' hnil hr pc ls rest d0 ws' H locs q ce hd0 hW hSS hpre hce hcv hcl
      subst hr
      have hckh : am_ckh (am_mq k).1.cls (am_hs k) (am_mq k).2.2.2.2.1 = true := by
        unfold am_chb at hck
        simp only [Bool.and_eq_true] at hck
        exact hck.2
      rw [hnil] at hckh
      have hnil2 := hs_nil hckh
      refine am_wrapX hd0 (vx_out (fun x hx => ?_) B.notSynchronized hce hcv hcl (fun t ht _ => ?_) hSS.2.2 (Nat.le_refl _) (Nat.le_refl _))
      · rw [htab, hnil2] at hx
        cases hx
      · exact ⟨E, ws', rfl, rfl, by rw [ht]; exact hW, hpre, va_S.F (s := s.setDrawn d0) hSS ht⟩
  by_cases hem : (am_mq k).2.2.2.2.1.isEmpty = true
  · refine am_ofW (cc := (am_mq k).2.1) (maxL := (am_mq k).2.2.1) (ret := (am_mq k).2.2.2.1) (ws' := am_ws) c2 (by rw [am_cw, if_pos hem]) ?_
    intro p e s m args below meth c s₁ B hml htab hP
    refine body p e s m args below meth c s₁ B hml ?_ hP
    rw [List.isEmpty_iff.mp hem]
    cases hl : c.exceptionTable.toList with
    | nil => rfl
    | cons x t => exact (htab x (by rw [hl]; exact List.mem_cons_self)).elim
  · refine am_ofWH (cc := (am_mq k).2.1) (maxL := (am_mq k).2.2.1) (ret := (am_mq k).2.2.2.1) (hh := (am_mq k).2.2.2.2.1) (ws' := am_ws) c2 (by rw [am_cw, if_neg hem]) ?_
    intro p e s m args below meth c s₁ B hml htab hP
    exact body p e s m args below meth c s₁ B hml htab hP
theorem am_sound {l : Launch} (hst : l.stackTraces = false) (hbb : ∀ k', k' < 233 → am_chb k' = true) (hcc : ∀ k', k' < 232 → am_chc k' = true) (n : Nat) : ∀ k, k < 232 → am_P l D cT n k := by
  induction n using Nat.strongRecOn with
  | _ n ih => exact fun k hk => am_meth hst hbb hcc ih hk
end FD
