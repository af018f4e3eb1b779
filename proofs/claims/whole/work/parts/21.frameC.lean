section FC
variable {p : Program} {l : Launch} {e : Env} {R : Room} {s : State} {m : MethodId} {args : Array Value} {below : List Frame} {meth : Method} {c : Code} {Q : State → Prop}
variable {k N : Nat} {D : va_G} {cT : List (ClassId × FieldType)} {b : Nat} {A : Nat → Prop} {L0 : List Nat} {kc0 ks0 : Nat} {xs : Option (Nat × (Nat → Int32))}
theorem am_Ax_in {M : am_M} {ws : va_W} {H : Heap} {locs : List Loc} (hW : am_Wd D cT b A M ws H) (hSS : va_S A s.heap H locs) (hA : ∀ q, s.heap.size ≤ q → A q) : ∀ q, am_Ax ws H.size q → A q := by
  intro q h
  rcases h with h | h
  · exact hW.inA h
  · exact hA q (Nat.le_trans hSS.1 h)
theorem am_S_next {M : am_M} {ws : va_W} {H : Heap} {locs L : List Loc} (hW : am_Wd D cT b A M ws H) (hSS : va_S A s.heap H locs) (hA : ∀ q, s.heap.size ≤ q → A q) {st₀ t : State} (h0 : st₀.heap = H) (hF : va_F (am_Ax ws H.size) st₀ t) (hL : ∀ q ∈ L, am_Ax ws H.size q.base) : va_S A s.heap t.heap (locs ++ L) := by
  have hin := am_Ax_in hW hSS hA
  obtain ⟨f1, f2⟩ := hF
  rw [h0] at f1 f2
  refine ⟨Nat.le_trans hSS.1 f1, fun q h1 h2 => ?_, fun z hz => ?_⟩
  · rw [f2 q (Nat.lt_of_lt_of_le h1 hSS.1) (fun z => h2 (hin q z))]
    exact hSS.2.1 q h1 h2
  · rcases List.mem_append.mp hz with hz | hz
    · exact hSS.2.2 z hz
    · exact hin _ (hL z hz)
set_option maxRecDepth 100000 in
theorem am_loc {x d' L : Nat} (hx : x ≤ 41) (hl : 60 * (d' + 1) + 300 ≤ L) : 8 + (x + 11) + (60 * d' + 300) ≤ L := by omega
theorem am_cond_at {a' : Array Value} {w : Cond} (hts : ∀ w ∈ am_ws, w.before args s = true) (hw : w ∈ am_ws) {U : State} (hW : s.WarmedH U.vm) : w.before a' U = true := word_at hW (am_ws_good w hw).2 (hts w hw)
theorem am_frame (C : am_Ck p l R s m args meth c k D cT A) (hXs : am_Xs xs b A s) (hck : am_chb k = true) (htab : am_hs k = [] ∨ c.exceptionTable.toList = tableOf (am_mq k).2.2.2.2.1) (hcc : ∀ k', k' < 232 → am_chc k' = true)
    (HP : ∀ n, n < N → ∀ k', k' < 232 → am_P l D cT n k') (r : am_R)
    (hE : ∀ pc la st M q v, am_at k pc = some q → am_step xs q.2.1 q.2.2.2.1 q.2.2.2.2.1 q.2.2.2.2.2.1 q.2.2.2.2.2.2.2.2 pc la st M = some (.inr (.inl v)) → r = (.inl v, M) → am_KK p l e R s m args below meth c Q (am_mq k).2.2.1 D cT b A L0 la st M pc kc0 ks0)
    (hT : ∀ pc la st M q E, am_at k pc = some q → am_step xs q.2.1 q.2.2.2.1 q.2.2.2.2.1 q.2.2.2.2.2.1 q.2.2.2.2.2.2.2.2 pc la st M = some (.inr (.inr (.inl E))) → r = (.inr E, am_pay M 1 6) → kc0 ≤ M.2.1 → ks0 ≤ M.2.2.1 → am_KK p l e R s m args below meth c Q (am_mq k).2.2.1 D cT b A L0 la st M pc kc0 ks0)
    (hX : ∀ E M, am_hs k = [] → r = (.inr E, M) → ∀ (pc : Nat) (ls : Array Slot) (rest : List Value) (d0 : Drawn) (ws : va_W) (H : Heap) (locs : List Loc) (q : Addr) (ce : Cell), s.drawn.sameBut d0 lw_cs → am_Wd D cT b A M ws H → va_S A s.heap H locs → am_pre L0 (am_la ws) → H[q]? = some ce → ce.vm = .none → s.vm.findClass (am_exn E) = some ce.cls →
      vx_W p l e R (s.setDrawn d0) m args below meth c H locs (M.2.1 - kc0) (M.2.2.1 - ks0) Q (F0 m pc ls rest) q)
    (hRc : r.2.2.1 - kc0 ≤ R.cells) (hRs : r.2.2.2.1 - ks0 ≤ R.slots) :
    ∀ n, n ≤ N → ∀ (d pc : Nat) (la : am_L) (st : List Value) (M : am_M), am_run n d xs k pc la st M = some r → d + 6 ≤ R.frames → 60 * d + 300 ≤ R.locals → kc0 ≤ M.2.1 → ks0 ≤ M.2.2.1 →
      am_KK p l e R s m args below meth c Q (am_mq k).2.2.1 D cT b A L0 la st M pc kc0 ks0 := by
  intro n
  induction n with
  | zero => intro hn d pc la st M h; simp [am_run] at h
  | succ n ih =>
    intro hn d pc la st M h hf hl hk0 hs0
    cases hq : am_at k pc with
    | none => simp [am_run, hq] at h
    | some q =>
      obtain ⟨hpc, hcki⟩ := am_at_ck hck hq
      cases hs : am_step xs q.2.1 q.2.2.2.1 q.2.2.2.2.1 q.2.2.2.2.2.1 q.2.2.2.2.2.2.2.2 pc la st M with
      | none => simp [am_run, hq, hs] at h
      | some o =>
        match o, hs with
        | .inl (pc', la', st', M'), hs =>
          simp only [am_run, hq, hs] at h
          have hle := le_step hs
          have hle2 := le_run h
          simp only [am_cki, Bool.and_eq_true, decide_eq_true_eq] at hcki
          obtain ⟨⟨hdec, hc1⟩, -⟩ := hcki
          rw [hpc] at hdec hc1
          intro d0 ls sr H locs hd0 hP
          exact am_sstep C hXs hc1 hdec hs hP hd0 hk0 hs0 (Nat.le_trans (Nat.sub_le_sub_right hle2.1 _) hRc) (Nat.le_trans (Nat.sub_le_sub_right hle2.2 _) hRs) (ih (by omega) d pc' la' st' M' h hf hl (Nat.le_trans hk0 hle.1) (Nat.le_trans hs0 hle.2))
        | .inr (.inl v), hs =>
          simp only [am_run, hq, hs] at h
          cases h
          exact hE pc la st M q v hq hs rfl
        | .inr (.inr (.inl E)), hs =>
          simp only [am_run, hq, hs] at h
          cases h
          exact hT pc la st M q E hq hs rfl hk0 hs0
        | .inr (.inr (.inr (as, rest))), hs =>
          simp only [am_run, hq, hs] at h
          cases d with
          | zero => simp at h
          | succ d' =>
            simp only at h
            split at h
            case isFalse => cases h
            rename_i hwt
            intro d0 ls sr H locs hd0 hP
            obtain ⟨lr, ws, hlv, hTR, hSR, hW, hSS, hpre⟩ := hP
            obtain ⟨hk', hwr, ras, rrest, ig, hdg, hasR, hreR, hI⟩ := am_invoke (p := p) (l := l) (e := e) (R := R) (below := below) (locs := locs) (ls := ls) (d0 := d0) (cells := M.2.1 - kc0) (slots := M.2.2.1 - ks0) C hcc hpc hcki hs hW hSR
            generalize q.2.2.2.2.1 = kk at *
            cases hw : am_run n d' none kk 0 (lv_args 0 as) [] M with
            | none => simp [hw] at h
            | some r2 =>
              simp only [hw] at h
              have hle2 := le_run hw
              have hle3 : am_le r2.2 r.2 := by
                match r2, h with
                | (.inl w, M'), h => exact le_run h
                | (.inr E, M'), h =>
                  simp only at h
                  split at h
                  · exact le_run h
                  · split at h
                    · cases h
                      exact am_le.refl _
                    · cases h
              have hPk := HP n (by omega) kk hk' d' as M r2 ras b H.size ws hw hwt hasR
              obtain ⟨c1, c2, c3, c4, c5, c6⟩ := am_chc_in (hcc kk hk')
              obtain ⟨hx, hb, hml, hown, hts, hlk, hK, hZ, hA, hini, hRf, hRl, hst⟩ := id C
              have hin := am_Ax_in hW hSS hA
              have hB := am_back (cs := lw_cs) (p := p) (e := e) (below := below) (s := s.setDrawn d0) (sargs := args) (len := 3) (W9 := 8) (R := R) (maxL := (am_mq kk).2.2.1) hPk am_Pc_blind rfl rfl
                (by show d' + 6 + 1 ≤ R.frames; omega) (am_loc (Nat.le_trans (Nat.le_of_eq c6.symm) c5) hl)
                (fun w hw' a' U hWU => by
                  rcases List.mem_cons.mp hw' with rfl | hw'
                  · exact am_cond_at hts c1 hWU
                  · exact am_cond_at hts hw' hWU)
                (fun U mk hWU hnm => am_cw_loc (a' := args) (am_cond_at hts c1 hWU) hnm)
                (fun a' U hWU => am_cond_at hts c4 hWU)
              have hsz : ls.size = c.maxLocals := by rw [hlv.1]; exact hml.symm
              refine am_call (as := ras) (rest := rrest) (stk := sr) hI hB hsz hdg (by rw [hreR.wt]; exact hwr) ?_ ⟨?_, ?_⟩ ?_ ?_
              · intro U hU hWU
                refine ⟨rfl, by rw [hU], ?_, am_K_warm (s := s) hWU hK, ?_⟩
                · rw [hU]; exact hW.weaken fun _ _ => trivial
                · rw [hU]; exact am_Z_moved hWU.alike (am_Z_narrow (am_Z_kept hZ hSS.2.1) hin)
              · have h1 := hle2.1; have h2 := hle3.1; omega
              · have h1 := hle2.2; have h2 := hle3.2; omega
              · intro v st₀ t d1 L hd1 h0 hQ hL
                obtain ⟨w, rv, ws', ho, hr, hv, hW', hp', hF⟩ := hQ
                cases ho
                obtain ⟨r1, M'⟩ := r2
                dsimp only at hr hW'
                subst hr
                simp only at h
                have hS2 := am_S_next hW hSS hA h0 hF hL
                have hW2 : am_Wd D cT b A M' ws' t.heap := hW'.weaken fun z hz => hin z (hW'.inA hz)
                refine W.cs ?_ ?_ (ih (by omega) (d' + 1) (pc + 3) la (w.toList ++ rest) M' h hf hl (Nat.le_trans hk0 hle2.1) (Nat.le_trans hs0 hle2.2) d1 ls _ t.heap _ (Drawn.sameBut.trans hd0 hd1) ⟨lr, ws', hlv, hTR.mono fun _ _ => am_VR.mono hp', hv.app (hreR.mono fun _ _ => am_VR.mono hp'), hW2, hS2, hpre.trans hp'⟩)
                · have h1 := hle2.1; dsimp only at h1 ⊢; omega
                · have h1 := hle2.2; dsimp only at h1 ⊢; omega
              · intro qx E ce st₀ t d1 L hd1 h0 hQ hce hcv hcl hL
                obtain ⟨E0, ws', hr, rfl, hW', hp', hF⟩ := hQ
                obtain ⟨r1, M'⟩ := r2
                dsimp only at hr hW'
                subst hr
                simp only at h
                have hS2 := am_S_next hW hSS hA h0 hF hL
                have hW2 : am_Wd D cT b A M' ws' t.heap := hW'.weaken fun z hz => hin z (hW'.inA hz)
                have e1 : M.2.1 - kc0 + (M'.2.1 - M.2.1) = M'.2.1 - kc0 := by have h1 := hle2.1; dsimp only at h1; omega
                have e2 : M.2.2.1 - ks0 + (M'.2.2.1 - M.2.2.1) = M'.2.2.1 - ks0 := by have h1 := hle2.2; dsimp only at h1; omega
                show vx_W p l e R (s.setDrawn d1) m args below meth c t.heap (locs ++ L) (M.2.1 - kc0 + (M'.2.1 - M.2.1)) (M.2.2.1 - ks0 + (M'.2.2.1 - M.2.2.1)) Q (F0 m pc ls rrest) qx
                rw [e1, e2]
                have hds := Drawn.sameBut.trans hd0 hd1
                cases hh : am_hd k pc E0 with
                | none =>
                  simp only [hh] at h
                  split at h
                  · rename_i hem
                    cases h
                    exact hX E0 M' (List.isEmpty_iff.mp hem) rfl pc ls rrest d1 ws' t.heap _ qx ce hds hW2 hS2 (hpre.trans hp') hce hcv hcl
                  · cases h
                | some hpc2 =>
                  simp only [hh] at h
                  have htab := htab.resolve_left (by
                    intro z
                    unfold am_hd at hh
                    rw [z] at hh
                    simp at hh)
                  unfold am_hd at hh
                  obtain ⟨h9, hf9, he9⟩ := Option.map_eq_some_iff.mp hh
                  have hckh : am_ckh (am_mq k).1.cls (am_hs k) (am_mq k).2.2.2.2.1 = true := by
                    unfold am_chb at hck
                    simp only [Bool.and_eq_true] at hck
                    exact hck.2
                  obtain ⟨pre, x, suf, s1, s2, s3, s4, s5, s6, s7, s8⟩ := hd_split hckh hf9
                  have htd : ∀ w ∈ am_ws, w.before args (s.setDrawn d1) = true := dr_words hts d1
                  have hKd : am_K D cT (s.setDrawn d1) := am_K_same (s := s) (U := s.setDrawn d1) rfl hK
                  refine vx_catch (s := s.setDrawn d1) (own := (am_mq k).1.cls) (name := am_exn E0) (E := am_exn E0) (ce := ce) hown (tableOf pre) ⟨x.1, x.2.1, x.2.2.1, x.2.2.2⟩ (tableOf suf) (by rw [htab, s1]; simp [tableOf]) (fun z hz => ?_)
                    (by simp [covers, s2, s3]) s5 (htd _ s6) (am_any htd hKd (am_in_of s7).1) hce hcv hcl ?_
                  · obtain ⟨y, hy, rfl⟩ := List.mem_map.mp hz
                    rcases s8 y hy with g | ⟨g1, E', g2, g3⟩
                    · refine Or.inl ?_
                      show (decide (y.1 ≤ pc) && decide (pc < y.2.1)) = false
                      by_cases a1 : y.1 ≤ pc
                      · by_cases a2 : pc < y.2.1
                        · exact absurd ⟨a1, a2⟩ g
                        · simp [a2]
                      · simp [a1]
                    · exact Or.inr ⟨g1, am_exn E', htd _ g3, hKd.2.2.2.2.2.2 (am_exn E0, am_exn E') g2⟩
                  · have hh2 : x.2.2.1 = hpc2 := by rw [s4]; exact he9
                    show W p l e R (s.setDrawn d1) m args below meth c t.heap (locs ++ L) (M'.2.1 - kc0) (M'.2.2.1 - ks0) Q (F0 m x.2.2.1 ls [.ref qx])
                    rw [hh2]
                    exact ih (by omega) (d' + 1) hpc2 la [.float 0] M' h hf hl (Nat.le_trans hk0 hle2.1) (Nat.le_trans hs0 hle2.2) d1 ls _ t.heap _ hds ⟨lr, ws', hlv, hTR.mono fun _ _ => am_VR.mono hp', ⟨⟨qx, rfl⟩, trivial⟩, hW2, hS2, hpre.trans hp'⟩
end FC
