section FB
variable {p : Program} {l : Launch} {e : Env} {R : Room} {s : State} {m : MethodId} {args : Array Value} {below : List Frame} {meth : Method} {c : Code} {Q : State → Prop}
variable {k : Nat} {D : va_G} {cT : List (ClassId × FieldType)} {b : Nat} {A : Nat → Prop} {L0 : List Nat} {kc0 ks0 : Nat} {xs : Option (Nat × (Nat → Int32))}
/-- what a frame of method k stands on -/
def am_Ck (p : Program) (l : Launch) (R : Room) (s : State) (m : MethodId) (args : Array Value) (meth : Method) (c : Code) (k : Nat) (D : va_G) (cT : List (ClassId × FieldType)) (A : Nat → Prop) : Prop :=
  am_Cx p l R s m args meth c (am_mq k).1.cls (am_mq k).2.1 (am_mq k).2.2.1 (decide ((am_mq k).1.name = "<init>")) D cT A
theorem am_lk_in {own : String} {idx w : Nat} {y : MethodName} (h : am_lk own false idx w y = true) : Cond.methodLink own idx y ∈ am_ws := am_hw_in h
theorem am_lkn_in {own : String} {idx w : Nat} {y : MethodName} (hK : am_K D cT s) (h : am_lk own true idx w y = true) : ∃ host, (Cond.methodLinkNest own idx y host).before args s = true := by
  simp only [am_lk, if_true, List.any_eq_true, decide_eq_true_eq] at h
  obtain ⟨q, hq, e1, e2, e3⟩ := h
  have h9 := hK.2.2.2.2.2.1 q hq
  rw [e1, e2, e3] at h9
  exact ⟨_, va_Nw.use rfl h9⟩
theorem am_pn_len {d : String} {n : Nat} (h : am_pn d n = true) : ∀ sig, parseMethodDescriptor d = some sig → n = sig.parameters.length := by
  intro sig hs
  unfold am_pn at h
  rw [hs] at h
  simpa using Eq.symm (by simpa using h)
theorem am_chc_in (h : am_chc k = true) : am_cw k ∈ am_ws ∧ plainFor (am_mq k).1 = true ∧ ((am_mq k).1.cls ≠ "java/lang/invoke/MethodHandle" ∧ (am_mq k).1.cls ≠ "java/lang/invoke/VarHandle") ∧ Cond.initialized (am_mq k).1.cls ∈ am_ws ∧ am_ml k ≤ 41 ∧ am_ml k = (am_mq k).2.2.1 := by
  unfold am_chc at h
  simp only [Bool.and_eq_true, decide_eq_true_eq] at h
  obtain ⟨⟨⟨⟨⟨h1, h2⟩, h3⟩, h4⟩, h5⟩, h6⟩ := h
  exact ⟨am_hw_in h1, h2, h3, am_hw_in h4, h5, h6⟩
theorem am_cw_sig (h : (am_cw k).before args s = true) : ∃ mk methM, am_Sig s (am_mq k).1 mk methM := by
  unfold am_cw at h
  split at h
  · exact am_sig h
  · exact am_sigW h
theorem am_cw_loc {U : State} {a' : Array Value} {mk : MethodId} (h : (am_cw k).before a' U = true) (hn : U.methodNamed? (am_mq k).1 = some mk) : ∃ (methY : Method) (cY : Code), U.vm.method? mk = some methY ∧ methY.code = some cY ∧ cY.maxLocals = (am_mq k).2.2.1 := by
  unfold am_cw at h
  split at h
  · obtain ⟨meth, c, h1, h2, -, h4, -⟩ := Cond.code_spec hn h
    exact ⟨meth, c, h1, h2, h4⟩
  · obtain ⟨m9, meth, c, hn9, h1, h2, -, h4, -⟩ := Cond.codeWith_spec h
    cases hn.symm.trans hn9
    exact ⟨meth, c, h1, h2, h4⟩
/-- the call at a frame, as the machine takes it -/
theorem am_invoke (C : am_Ck p l R s m args meth c k D cT A) (hcc : ∀ k', k' < 232 → am_chc k' = true) {la : am_L} {st as rest : List Value} {M : am_M} {pc : Nat} {q : am_I} {H : Heap} {locs : List Loc} {ls : Array Slot} {sr : List Value} {d0 : Drawn} {cells slots : Nat}
    (hq : q.1 = pc) (hck : am_cki k q = true) (hs : am_step xs q.2.1 q.2.2.2.1 q.2.2.2.2.1 q.2.2.2.2.2.1 q.2.2.2.2.2.2.2.2 pc la st M = some (.inr (.inr (.inr (as, rest))))) {ws : va_W} (hW : am_Wd D cT b A M ws H) (hSR : am_SR (am_VR b (am_la ws)) st sr) :
    q.2.2.2.2.1 < 232 ∧ am_wt rest ≤ 8 ∧ ∃ (ras rrest : List Value) (ig : Instr), decode c.code pc = .ok (ig, 3) ∧ am_SR (am_VR b (am_la ws)) as ras ∧ am_SR (am_VR b (am_la ws)) rest rrest ∧
      ∀ T, T.heap = H → Stand p l e R (s.setDrawn d0) m args below meth c T locs cells slots → am_Inv p l e R (s.setDrawn d0) m args below meth c locs cells slots T (F0 m pc ls sr) (am_mq q.2.2.2.2.1).1 ras rrest := by
  obtain ⟨hx, hb, hml, hown, hts, hlk, hK, hZ, hA, hini, hRf, hRl, hst⟩ := C
  obtain ⟨hcall, hinv⟩ := call_inv hs
  obtain ⟨i1, i2, i3, i4, i5⟩ := inv_inv hinv
  simp only [am_cki, Bool.and_eq_true, decide_eq_true_eq] at hck
  obtain ⟨⟨hdec, hck1⟩, hck2⟩ := hck
  rw [hq] at hdec hck2
  have htd : ∀ w ∈ am_ws, w.before args (s.setDrawn d0) = true := dr_words hts d0
  have hKd : am_K D cT (s.setDrawn d0) := am_K_same (s := s) (U := s.setDrawn d0) rfl hK
  have hownd : (s.setDrawn d0).vm.findClass (am_mq k).1.cls = some m.cls := hown
  have hasR : am_SR (am_VR b (am_la ws)) as ((sr.take q.2.2.2.2.2.1).reverse) := by rw [i3]; exact (hSR.take _).rev
  have hreR : am_SR (am_VR b (am_la ws)) rest (sr.drop q.2.2.2.2.2.1) := by rw [i4]; exact hSR.drop _
  have hlenr : sr.length = st.length := hSR.len
  generalize hfa : q.2.2.2.1 = fa at *
  generalize hfb : q.2.2.2.2.1 = fb at *
  generalize hfc : q.2.2.2.2.2.1 = fc at *
  have hstk : sr = ((sr.take fc).reverse).reverse ++ sr.drop fc := by rw [List.reverse_reverse, List.take_append_drop]
  have hln : ((sr.take fc).reverse).length = fc := by rw [List.length_reverse, List.length_take]; omega
  rcases hcall with ⟨⟨idx, hi⟩, ha⟩ | ⟨⟨idx, hi⟩, ha⟩ | ⟨⟨idx, hi⟩, ha⟩
  · rw [hi] at hck2 hdec
    simp only [am_ck2, if_pos ha, Bool.and_eq_true, decide_eq_true_eq] at hck2
    obtain ⟨⟨⟨g1, g2⟩, g3⟩, g4⟩ := hck2
    obtain ⟨c1, c2, c3, c4, c5, c6⟩ := am_chc_in (hcc fb g1)
    have hdc : decode c.code pc = .ok (.invokestatic idx, 3) := by rw [hb]; exact hdec
    refine ⟨g1, by rw [i4]; exact i2, _, _, _, hdc, hasR, hreR, fun T hT X => ?_⟩
    by_cases h10 : fa = 10
    · obtain ⟨host, hl⟩ := am_lkn_in (args := args) hKd (by rw [decide_eq_true h10] at g2; exact g2)
      exact am_invSN X hx hownd hl (htd _ (am_hw_in g3)) (htd _ c4) (am_cw_sig (htd _ c1)) c3 (g := F0 m pc ls sr) rfl (fun sig h => by rw [hln]; exact am_pn_len g4 sig h) hstk hdc
    · exact am_invS X hx hownd (htd _ (am_lk_in (by rw [decide_eq_false h10] at g2; exact g2))) (htd _ (am_hw_in g3)) (htd _ c4) (am_cw_sig (htd _ c1)) c3 (g := F0 m pc ls sr) rfl (fun sig h => by rw [hln]; exact am_pn_len g4 sig h) hstk hdc
  · rw [hi] at hck2 hdec
    simp only [am_ck2, if_pos ha, Bool.and_eq_true, decide_eq_true_eq] at hck2
    obtain ⟨⟨⟨⟨⟨⟨g1, g2⟩, g3⟩, g4⟩, g5⟩, g6⟩, g7⟩ := hck2
    obtain ⟨c1, c2, c3, c4, c5, c6⟩ := am_chc_in (hcc fb g1)
    have hdc : decode c.code pc = .ok (.invokevirtual idx, 3) := by rw [hb]; exact hdec
    obtain ⟨o, t, e1, e2⟩ : ∃ o t, as = .ref o :: t ∧ am_rcv (am_f M o) q.2.2.2.2.2.2.2.2 = true := by
      rcases i5 with i5 | i5 | i5
      · omega
      · omega
      · exact i5
    rw [e1] at hasR
    generalize hrs : (sr.take fc).reverse = rs at *
    obtain ⟨qa, ts, rfl, hqa, hts2⟩ := sr_a hasR
    refine ⟨g1, by rw [i4]; exact i2, .ref qa :: ts, sr.drop fc, _, hdc, by rw [e1]; exact ⟨⟨qa, hqa, rfl⟩, hts2⟩, hreR, fun T hT X => ?_⟩
    obtain ⟨cell, hcell, hobj, hcl⟩ : ∃ cell : Cell, H[qa]? = some cell ∧ cell.vm.isStatics = false ∧ s.vm.findClass (am_mq fb).1.cls = some cell.cls := by
      obtain ⟨ee, he, hER⟩ := hW.get hqa
      unfold am_rcv at e2
      split at e2
      · rename_i ci fs cc0 hfo hv0
        have hci : ci = cc0 := by simpa using e2
        rw [hfo] at hER
        obtain ⟨gs, rfl, hlt, -⟩ := hER
        unfold am_rc at g7
        rw [hv0] at g7
        simp only at g7
        split at g7
        · rename_i q9 hq9
          have hn : q9.1 = (am_mq fb).1.cls := by simpa using g7
          obtain ⟨cell, k1, k2, k3⟩ := va_recv (ci := ci) hK.1 hW.1 (by rw [hci]; exact hq9) he
          exact ⟨cell, k1, k2, by rw [← hn]; exact k3⟩
        · cases g7
      · cases e2
    exact am_invV X hx hownd (htd _ (am_lk_in g3)) (htd _ (am_hw_in g4)) (htd _ (am_hw_in g5)) (am_cw_sig (htd _ c1)) c3 (by rw [hT]; exact hcell) hobj hcl (g := F0 m pc ls sr) rfl
      (fun sig h => by rw [← am_pn_len g6 sig h]; have := hln; simp only [List.length_cons] at this; omega) (show sr = ts.reverse ++ .ref qa :: sr.drop fc from hstk.trans (by simp)) hdc
  · rw [hi] at hck2 hdec
    simp only [am_ck2, if_pos ha, Bool.and_eq_true, decide_eq_true_eq] at hck2
    obtain ⟨⟨⟨⟨⟨⟨⟨⟨g1, g2⟩, g3⟩, g4⟩, g5⟩, g6⟩, g7⟩, g8⟩, g9⟩ := hck2
    obtain ⟨c1, c2, c3, c4, c5, c6⟩ := am_chc_in (hcc fb g1)
    have hdc : decode c.code pc = .ok (.invokespecial idx, 3) := by rw [hb]; exact hdec
    obtain ⟨o, t, e1, e2⟩ : ∃ o t, as = .ref o :: t ∧ am_rcv (am_f M o) q.2.2.2.2.2.2.2.2 = true := by
      rcases i5 with i5 | i5 | i5
      · omega
      · omega
      · exact i5
    rw [e1] at hasR
    generalize hrs : (sr.take fc).reverse = rs at *
    obtain ⟨qa, ts, rfl, hqa, hts2⟩ := sr_a hasR
    have hcode : Cond.code (am_mq fb).1 (am_mq fb).2.1 (am_mq fb).2.2.1 none ∈ am_ws := by
      have h9 := c1
      unfold am_cw at h9
      rw [if_pos g6, g7] at h9
      exact h9
    refine ⟨g1, by rw [i4]; exact i2, .ref qa :: ts, sr.drop fc, _, hdc, by rw [e1]; exact ⟨⟨qa, hqa, rfl⟩, hts2⟩, hreR, fun T hT X => ?_⟩
    by_cases h12 : fa = 12
    · obtain ⟨host, hl⟩ := am_lkn_in (args := args) hKd (by rw [decide_eq_true h12] at g3; exact g3)
      exact am_invIN X hx hownd g5 hl (htd _ (am_hw_in g4)) (htd _ hcode) c3 (g := F0 m pc ls sr) rfl
        (fun sig h => by rw [← am_pn_len g8 sig h]; have := hln; simp only [List.length_cons] at this; omega) (show sr = ts.reverse ++ .ref qa :: sr.drop fc from hstk.trans (by simp)) hdc
    · exact am_invI X hx hownd g5 (htd _ (am_lk_in (by rw [decide_eq_false h12] at g3; exact g3))) (htd _ (am_hw_in g4)) (htd _ hcode) c3 (g := F0 m pc ls sr) rfl
        (fun sig h => by rw [← am_pn_len g8 sig h]; have := hln; simp only [List.length_cons] at this; omega) (show sr = ts.reverse ++ .ref qa :: sr.drop fc from hstk.trans (by simp)) hdc
end FB
