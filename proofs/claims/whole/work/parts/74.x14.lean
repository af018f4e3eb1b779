/-! the class: observe -/
def xoG (P : am_S) (G : xG) (M : am_M) : xG := (va_up (va_up (va_up (va_up (va_up G.1 1 (va_up (G.1 1) (sn P 5) M.1)) 2 (va_up (G.1 2) (sn P 5) (M.1 + 1))) 3 (va_up (G.1 3) (sn P 5) (M.1 + 2))) 4 (va_up (G.1 4) (sn P 5) (M.1 + 3))) 6 (va_up (G.1 6) (sn P 4) (sn P 5 + 1)), G.2)
theorem xoG_pa (P : am_S) (G : xG) (M : am_M) : gpa (xoG P G M) = gpa G := rfl
theorem xoG_wp (P : am_S) (G : xG) (M : am_M) : gwp (xoG P G M) = gwp G := rfl
theorem xoG_ob (P : am_S) (G : xG) (M : am_M) (o : Nat) : gob (xoG P G M) o = if o = sn P 5 then M.1 else gob G o := rfl
theorem xoG_re (P : am_S) (G : xG) (M : am_M) (o : Nat) : gre (xoG P G M) o = if o = sn P 5 then M.1 + 1 else gre G o := rfl
theorem xoG_ph (P : am_S) (G : xG) (M : am_M) (o : Nat) : gph (xoG P G M) o = if o = sn P 5 then M.1 + 2 else gph G o := rfl
theorem xoG_es (P : am_S) (G : xG) (M : am_M) (o : Nat) : ges (xoG P G M) o = if o = sn P 5 then M.1 + 3 else ges G o := rfl
theorem xoG_lo (P : am_S) (G : xG) (M : am_M) (q : Nat) : glo (xoG P G M) q = if q = sn P 4 then sn P 5 + 1 else glo G q := rfl
theorem mOb_u (P : am_S) : sN (mOb P) 3 = va_up (sN P 3) (sn P 5) (sn P 4 - 1) ∧ sI (mOb P) 3 = va_up (sI P 3) (sn P 5) (si P 1) ∧ sI (mOb P) 4 = mcp (sI P 4) (6 * sn P 5) (mph P (sj P 0)) (sn P 3) ∧ sJ (mOb P) 7 = va_up (sJ P 7) (sn P 5) (mCn P) := ⟨rfl, rfl, rfl, rfl⟩
theorem mOb_v (P : am_S) : sn (mOb P) 4 = sn P 4 ∧ sn (mOb P) 5 = sn P 5 + 1 ∧ sN (mOb P) 1 = sN P 1 ∧ sN (mOb P) 2 = sN P 2 ∧ sN (mOb P) 4 = sN P 4 ∧ sI (mOb P) 2 = sI P 2 ∧ sJ (mOb P) 3 = sJ P 3 ∧ sJ (mOb P) 4 = sJ P 4 ∧ sJ (mOb P) 5 = sJ P 5 ∧ sJ (mOb P) 6 = sJ P 6 := ⟨rfl, rfl, rfl, rfl, rfl, rfl, rfl, rfl, rfl, rfl⟩
theorem ob_kn {c c' n n' : Nat} {f g : Nat → Value} (h : ¬ c = c') : ¬ ob c n f = ob c' n' g := fun z => h (congrArg (fun x : va_E => match x with | .inr (q, _) => q | _ => 0) z)
theorem ob_il {c n : Nat} {f : Nat → Value} {x} : ¬ (Sum.inl x : va_E) = ob c n f := fun z => by cases z
theorem xoG_new {P : am_S} {G : xG} {M : am_M} {p : Nat} (hpe : p + 1 = sn P 4) (hlo : xLo P (glo G)) : ob 3 8 (xos (gpa G p) (si P 1) (Int32.ofNat (sn P 5 - glo G p)) (mCn P) (if sn P 5 = glo G p then 0 else (mCn P - sJ P 7 (sn P 5 - 1)) * (sI P 2 p).toInt64) (.ref (M.1 + 1)) (if sn P 5 = glo G p then .null else .ref (gob G (sn P 5 - 1))) .null) = ob 3 8 (xob (mOb P) (xoG P G M) (sn P 5)) := by
  obtain ⟨u1, u2, u3, u4⟩ := mOb_u P
  obtain ⟨v1, v2, v3, v4, v5, v6, v7, v8, v9, v10⟩ := mOb_v P
  have hl := hlo.2.1 p (by omega)
  rw [hpe, hlo.2.2.1] at hl
  have q3 : sN (mOb P) 3 (sn P 5) = p := by rw [u1, up_at]; omega
  have g1 : glo (xoG P G M) p = glo G p := by rw [xoG_lo, if_neg (by omega)]
  have g2 : glo (xoG P G M) (p + 1) = sn P 5 + 1 := by rw [xoG_lo, if_pos hpe]
  have hdc : Value.long (if sn P 5 = glo G p then 0 else (mCn P - sJ P 7 (sn P 5 - 1)) * (sI P 2 p).toInt64) = .long (xdc (mOb P) (xoG P G M) (sn P 5)) := by
    unfold xdc mMv
    rw [q3, g1, u4, up_at, v6]
    by_cases h : sn P 5 = glo G p
    · rw [if_pos h, if_pos h]
    · rw [if_neg h, if_neg h, up_ne _ _ (by omega)]
  have hbe : (if sn P 5 = glo G p then Value.null else .ref (gob G (sn P 5 - 1))) = xbe (mOb P) (xoG P G M) (sn P 5) := by
    unfold xbe
    rw [q3, g1]
    by_cases h : sn P 5 = glo G p
    · rw [if_pos h, if_pos h]
    · rw [if_neg h, if_neg h, xoG_ob, if_neg (by omega)]
  exact ob_ex (fun i hi => match i, hi with | 0, _ => by show Value.ref _ = .ref (gpa G (sN (mOb P) 3 (sn P 5))); rw [q3] | 1, _ => by show Value.int _ = .int (sI (mOb P) 3 (sn P 5)); rw [u2, up_at] | 2, _ => by show _ = Value.int (Int32.ofNat (sn P 5 - glo (xoG P G M) (sN (mOb P) 3 (sn P 5)))); rw [q3, g1]; rfl | 3, _ => by show Value.long _ = Value.long (sJ (mOb P) 7 (sn P 5)); rw [u4, up_at] | 4, _ => hdc | 5, _ => by show _ = Value.ref (gre (xoG P G M) (sn P 5)); rw [xoG_re, if_pos rfl]; rfl | 6, _ => hbe | 7, _ => by show Value.null = xne (mOb P) (xoG P G M) (sn P 5); unfold xne; rw [q3, g2, if_neg (by omega)] | k + 8, h => absurd h (by omega))
theorem xoG_old {P : am_S} {G : xG} {M : am_M} (hI : mInv P) {p : Nat} (hpe : p + 1 = sn P 4) (hlo : xLo P (glo G)) {o : Nat} (ho : o < sn P 5) : ob 3 8 (if o + 1 = sn P 5 ∧ sN P 3 o = p then va_up (xob P G o) 7 (.ref M.1) else xob P G o) = ob 3 8 (xob (mOb P) (xoG P G M) o) := by
  obtain ⟨u1, u2, u3, u4⟩ := mOb_u P
  obtain ⟨v1, v2, v3, v4, v5, v6, v7, v8, v9, v10⟩ := mOb_v P
  have hp := hI.2.2.1 o ho
  have q3 : sN (mOb P) 3 o = sN P 3 o := by rw [u1, up_ne _ _ (by omega)]
  have g1 : glo (xoG P G M) (sN P 3 o) = glo G (sN P 3 o) := by rw [xoG_lo, if_neg (by omega)]
  have hdc : Value.long (xdc P G o) = .long (xdc (mOb P) (xoG P G M) o) := by
    unfold xdc mMv
    rw [q3, g1, u4, v6, up_ne _ _ (by omega), up_ne _ _ (by omega)]
  have hbe : xbe P G o = xbe (mOb P) (xoG P G M) o := by
    unfold xbe
    rw [q3, g1, xoG_ob, if_neg (show ¬ o - 1 = sn P 5 by omega)]
  by_cases hc : o + 1 = sn P 5 ∧ sN P 3 o = p
  · rw [if_pos hc]
    have hne : Value.ref M.1 = xne (mOb P) (xoG P G M) o := by
      unfold xne
      rw [q3, hc.2, xoG_lo, if_pos hpe, if_pos (by omega), xoG_ob, if_pos hc.1]
    exact ob_ex (fun i hi => match i, hi with | 0, _ => by show Value.ref _ = .ref (gpa G (sN (mOb P) 3 o)); rw [q3] | 1, _ => by show Value.int (sI P 3 o) = .int (sI (mOb P) 3 o); rw [u2, up_ne _ _ (by omega)] | 2, _ => by show Value.int (Int32.ofNat (o - glo G (sN P 3 o))) = Value.int (Int32.ofNat (o - glo (xoG P G M) (sN (mOb P) 3 o))); rw [q3, g1] | 3, _ => by show Value.long (sJ P 7 o) = Value.long (sJ (mOb P) 7 o); rw [u4, up_ne _ _ (by omega)] | 4, _ => hdc | 5, _ => by show Value.ref (gre G o) = Value.ref (gre (xoG P G M) o); rw [xoG_re, if_neg (by omega)] | 6, _ => hbe | 7, _ => hne | k + 8, h => absurd h (by omega))
  · rw [if_neg hc]
    have hne : xne P G o = xne (mOb P) (xoG P G M) o := by
      unfold xne
      rw [q3]
      by_cases hq : sN P 3 o = p
      · have h1 : o + 1 < sn P 5 := by
          have : ¬ o + 1 = sn P 5 := fun z => hc ⟨z, hq⟩
          omega
        rw [hq, xoG_lo, if_pos hpe, hpe, hlo.2.2.1, if_pos h1, if_pos (by omega), xoG_ob, if_neg (by omega)]
      · have h5 := hlo.n5 (show sN P 3 o + 1 ≤ sn P 4 by omega)
        rw [xoG_lo, if_neg (show ¬ sN P 3 o + 1 = sn P 4 by omega)]
        by_cases h1 : o + 1 < glo G (sN P 3 o + 1)
        · rw [if_pos h1, if_pos h1, xoG_ob, if_neg (by omega)]
        · rw [if_neg h1, if_neg h1]
    exact ob_ex (fun i hi => match i, hi with | 0, _ => by show Value.ref _ = .ref (gpa G (sN (mOb P) 3 o)); rw [q3] | 1, _ => by show Value.int (sI P 3 o) = .int (sI (mOb P) 3 o); rw [u2, up_ne _ _ (by omega)] | 2, _ => by show Value.int (Int32.ofNat (o - glo G (sN P 3 o))) = Value.int (Int32.ofNat (o - glo (xoG P G M) (sN (mOb P) 3 o))); rw [q3, g1] | 3, _ => by show Value.long (sJ P 7 o) = Value.long (sJ (mOb P) 7 o); rw [u4, up_ne _ _ (by omega)] | 4, _ => hdc | 5, _ => by show Value.ref (gre G o) = Value.ref (gre (xoG P G M) o); rw [xoG_re, if_neg (by omega)] | 6, _ => hbe | 7, _ => hne | k + 8, h => absurd h (by omega))
theorem xoG_paq {P : am_S} {G : xG} {M : am_M} {p : Nat} (hpe : p + 1 = sn P 4) (hlo : xLo P (glo G)) {q : Nat} (hq : q < p) : xpa (mOb P) (xoG P G M) q = xpa P G q := by
  obtain ⟨v1, v2, v3, v4, v5, v6, v7, v8, v9, v10⟩ := mOb_v P
  have g1 : glo (xoG P G M) q = glo G q := by rw [xoG_lo, if_neg (by omega)]
  have g2 : glo (xoG P G M) (q + 1) = glo G (q + 1) := by rw [xoG_lo, if_neg (by omega)]
  have h5 := hlo.n5 (show q + 1 ≤ sn P 4 by omega)
  have h6 : xfi (xoG P G M) q = xfi G q := by
    unfold xfi
    rw [g1, g2]
    by_cases h : glo G q < glo G (q + 1)
    · rw [if_pos h, if_pos h, xoG_ob, if_neg (by omega)]
    · rw [if_neg h, if_neg h]
  have h7 : xla (xoG P G M) q = xla G q := by
    unfold xla
    rw [g1, g2]
    by_cases h : glo G q < glo G (q + 1)
    · rw [if_pos h, if_pos h, xoG_ob, if_neg (by omega)]
    · rw [if_neg h, if_neg h]
  funext i
  unfold xpa
  rw [h6, h7, g1, g2, v3, v5, v6, v7, v8, v9, v10, xoG_wp]
theorem xoG_pap {P : am_S} {G : xG} {M : am_M} {p : Nat} (hpe : p + 1 = sn P 4) (hlo : xLo P (glo G)) {f : Nat → Value} (hf : (glo G p = sn P 5 ∧ f = va_up (va_up (va_up (xpa P G p) 7 (.ref M.1)) 8 (.ref M.1)) 9 (.int (Int32.ofNat (glo G (p + 1) - glo G p + 1)))) ∨ (glo G p < sn P 5 ∧ f = va_up (va_up (xpa P G p) 8 (.ref M.1)) 9 (.int (Int32.ofNat (glo G (p + 1) - glo G p + 1))))) : ob 4 12 f = ob 4 12 (xpa (mOb P) (xoG P G M) p) := by
  have g1 : glo (xoG P G M) p = glo G p := by rw [xoG_lo, if_neg (by omega)]
  have g2 : glo (xoG P G M) (p + 1) = sn P 5 + 1 := by rw [xoG_lo, if_pos hpe]
  have g3 : glo G (p + 1) = sn P 5 := by rw [hpe, hlo.2.2.1]
  have hl := hlo.2.1 p (by omega)
  have h8 : Value.ref M.1 = xla (xoG P G M) p := by unfold xla; rw [g1, g2, if_pos (by omega), xoG_ob, Nat.add_sub_cancel, if_pos rfl]
  have h9 : Value.int (Int32.ofNat (glo G (p + 1) - glo G p + 1)) = .int (Int32.ofNat (glo (xoG P G M) (p + 1) - glo (xoG P G M) p)) := by rw [g1, g2, g3, show sn P 5 - glo G p + 1 = sn P 5 + 1 - glo G p by omega]
  rcases hf with ⟨hz, rfl⟩ | ⟨hz, rfl⟩
  · have h7 : Value.ref M.1 = xfi (xoG P G M) p := by unfold xfi; rw [g1, g2, if_pos (by omega), xoG_ob, if_pos hz]
    exact ob_ex (fun i hi => match i, hi with | 0, _ => rfl | 1, _ => rfl | 2, _ => rfl | 3, _ => rfl | 4, _ => rfl | 5, _ => rfl | 6, _ => rfl | 7, _ => h7 | 8, _ => h8 | 9, _ => h9 | 10, _ => rfl | 11, _ => rfl | k + 12, h => absurd h (by omega))
  · have h7 : xfi G p = xfi (xoG P G M) p := by unfold xfi; rw [g1, g2, g3, if_pos hz, if_pos (by omega), xoG_ob, if_neg (by omega)]
    exact ob_ex (fun i hi => match i, hi with | 0, _ => rfl | 1, _ => rfl | 2, _ => rfl | 3, _ => rfl | 4, _ => rfl | 5, _ => rfl | 6, _ => rfl | 7, _ => h7 | 8, _ => h8 | 9, _ => h9 | 10, _ => rfl | 11, _ => rfl | k + 12, h => absurd h (by omega))
theorem xoG_arr (P : am_S) (G : xG) (M : am_M) (o : Nat) : va_up (fun o => if o < sn P 5 then some (gob G o) else none) (sn P 5) (some M.1) o = if o < sn P 5 + 1 then some (gob (xoG P G M) o) else none := by
  unfold va_up
  rw [xoG_ob]
  by_cases h : o = sn P 5
  · rw [if_pos h, if_pos (by omega), if_pos h]
  · rw [if_neg h, if_neg h]
    dsimp only
    by_cases h2 : o < sn P 5
    · rw [if_pos h2, if_pos (by omega)]
    · rw [if_neg h2, if_neg (by omega)]
def xoF (P : am_S) (G : xG) (M : am_M) (p : Nat) (N : am_M) : Prop := (N.1 = M.1 + 4 ∧ N.2.1 = M.2.1 + 4 ∧ N.2.2.1 = M.2.2.1 + (11 + (sn P 3 + sn P 3))) ∧ am_f N 10 = ob 2 2 (xno (msd P (sn P 3))) ∧ am_f N M.1 = ob 3 8 (xob (mOb P) (xoG P G M) (sn P 5)) ∧ am_f N (M.1 + 1) = ob 5 3 (xrv (gwp G p) (M.1 + 2) (M.1 + 3)) ∧ (∃ f, am_f N (M.1 + 2) = .inl (0, sn P 3, .inl f) ∧ ∀ k, k < sn P 3 → f k = mph P (sj P 0) k) ∧ (∃ g, am_f N (M.1 + 3) = .inl (1, sn P 3, .inr (.inl g)) ∧ ∀ k, k < sn P 3 → g k = mes (sJ P 2) (mph P (sj P 0)) k) ∧ am_f N (gpa G p) = ob 4 12 (xpa (mOb P) (xoG P G M) p) ∧
  (glo G p < sn P 5 → am_f N (gob G (sn P 5 - 1)) = ob 3 8 (xob (mOb P) (xoG P G M) (sn P 5 - 1))) ∧ ∀ a, a < M.1 → ¬ a = 10 → ¬ a = gpa G p → (glo G p < sn P 5 → ¬ a = gob G (sn P 5 - 1)) → am_f N a = am_f M a
theorem xoG_rep {P : am_S} {G : xG} {M N M' : am_M} (r : xRep P G M) (hI : mInv P) {p : Nat} (hpe : p + 1 = sn P 4) (hn : sN P 2 p = sn P 3) (ht : ∀ k, k < sn P 3 → sJ P 3 (6 * p + k) = sJ P 2 k) (hF : xoF P G M p N)
    (m1 : M'.1 = N.1) (c0 : am_f M' 0 = ob 7 18 (va_up (xqf P G) 14 (.int (Int32.ofNat (sn P 5 + 1))))) (c12 : am_f M' 12 = .inl (6, 100, .inr (.inr (.inr (.inr (va_up (fun o => if o < sn P 5 then some (gob G o) else none) (sn P 5) (some M.1)))))))
    (cf : ∀ a, ¬ a = 0 → ¬ a = 12 → am_f M' a = am_f N a) : xRep (mOb P) (xoG P G M) M' := by
  obtain ⟨u1, u2, u3, u4⟩ := mOb_u P
  obtain ⟨v1, v2, v3, v4, v5, v6, v7, v8, v9, v10⟩ := mOb_v P
  obtain ⟨⟨f1, -, -⟩, f10, fO, fR, ⟨fp, fP, fP2⟩, ⟨fe, fE, fE2⟩, fA, fL, fr⟩ := hF
  have h47 := r.1
  have hlo := r.2.2.2.1
  obtain ⟨r1, r2, r3, r4, r5, r6, r7, r8⟩ := r
  have hpn : p < sn P 4 := by omega
  have hpa := r6 p hpn
  have h36 : sn P 3 ≤ 6 := by rw [← hn]; exact (hI.2.2.2 p hpn).2.1
  have hlast : glo G p < sn P 5 → sn P 5 - 1 < sn P 5 ∧ sN P 3 (sn P 5 - 1) = p := fun h => ⟨by omega, hlo.2.2.2 p hpn _ (by omega) (by rw [hpe, hlo.2.2.1]; omega)⟩
  have hlow : ∀ a, a < 47 → ¬ a = 0 → ¬ a = 10 → ¬ a = 12 → am_f M' a = am_f M a := fun a h1 h2 h3 h4 => by
    rw [cf a h2 h4, fr a (by omega) h3 (by have := hpa.2.1.1; omega) (fun h => by have := (r7 _ (hlast h).1).2.1.1; omega)]
  have hcf : ∀ a, xIn M a → ¬ a = gpa G p → (glo G p < sn P 5 → ¬ a = gob G (sn P 5 - 1)) → am_f M' a = am_f M a := fun a h1 h2 h3 => by
    have := h1.1
    rw [cf a (by omega) (by omega), fr a h1.2 (by omega) h2 h3]
  have kn : ∀ {a b : Nat}, ¬ am_f M a = am_f M b → ¬ a = b := fun h z => h (by rw [z])
  have hil : ∀ {a x}, (a = 9 ∨ xIn M a) → am_f M a = (Sum.inl x : va_E) → am_f M' a = am_f M a := fun {a x} h1 h2 => by
    rcases h1 with rfl | h1
    · exact hlow 9 (by decide) (by decide) (by decide) (by decide)
    · exact hcf a h1 (kn (by rw [h2, hpa.1]; exact ob_il)) (fun h => kn (by rw [h2, (r7 _ (hlast h).1).1]; exact ob_il))
  refine ⟨by omega, ?_, r3, ?_, ?_, ?_, ?_, ?_⟩
  · refine x_all (Q := fun a => am_f M' a = xqm (mOb P) (xoG P G M) a) ⟨by rw [c0]; exact ob_ex (fun i hi => match i, hi with | 0, _ => rfl | 1, _ => rfl | 2, _ => rfl | 3, _ => rfl | 4, _ => rfl | 5, _ => rfl | 6, _ => rfl | 7, _ => rfl | 8, _ => rfl | 9, _ => rfl | 10, _ => rfl | 11, _ => rfl | 12, _ => rfl | 13, _ => rfl | 14, _ => rfl | 15, _ => rfl | 16, _ => rfl | 17, _ => rfl | k + 18, h => absurd h (by omega)), (hlow 1 (by decide) (by decide) (by decide) (by decide)).trans ((r2 1 (by decide) (by decide)).trans rfl), (hlow 2 (by decide) (by decide) (by decide) (by decide)).trans ((r2 2 (by decide) (by decide)).trans rfl), (hlow 3 (by decide) (by decide) (by decide) (by decide)).trans ((r2 3 (by decide) (by decide)).trans rfl), (hlow 4 (by decide) (by decide) (by decide) (by decide)).trans ((r2 4 (by decide) (by decide)).trans rfl), (hlow 5 (by decide) (by decide) (by decide) (by decide)).trans ((r2 5 (by decide) (by decide)).trans rfl), (hlow 6 (by decide) (by decide) (by decide) (by decide)).trans ((r2 6 (by decide) (by decide)).trans rfl), (hlow 7 (by decide) (by decide) (by decide) (by decide)).trans ((r2 7 (by decide) (by decide)).trans rfl), (hlow 8 (by decide) (by decide) (by decide) (by decide)).trans ((r2 8 (by decide) (by decide)).trans rfl), (cf 10 (by decide) (by decide)).trans (f10.trans (ob_ex (fun i hi => match i, hi with | 0, _ => rfl | 1, _ => by show Value.int (si (msd P (sn P 3)) 3) = .int (si P 3); rw [(msd_a P (sn P 3)).1] | k + 2, h => absurd h (by omega)))), (hlow 11 (by decide) (by decide) (by decide) (by decide)).trans ((r2 11 (by decide) (by decide)).trans rfl), by rw [c12]; show _ = (Sum.inl (6, 100, .inr (.inr (.inr (.inr (fun o => if o < sn P 5 + 1 then some (gob (xoG P G M) o) else none))))) : va_E); rw [show va_up (fun o => if o < sn P 5 then some (gob G o) else none) (sn P 5) (some M.1) = (fun o => if o < sn P 5 + 1 then some (gob (xoG P G M) o) else none) from funext fun o => xoG_arr P G M o], (hlow 13 (by decide) (by decide) (by decide) (by decide)).trans ((r2 13 (by decide) (by decide)).trans rfl), (hlow 14 (by decide) (by decide) (by decide) (by decide)).trans ((r2 14 (by decide) (by decide)).trans rfl), (hlow 15 (by decide) (by decide) (by decide) (by decide)).trans ((r2 15 (by decide) (by decide)).trans rfl), (hlow 16 (by decide) (by decide) (by decide) (by decide)).trans ((r2 16 (by decide) (by decide)).trans rfl), (hlow 17 (by decide) (by decide) (by decide) (by decide)).trans ((r2 17 (by decide) (by decide)).trans rfl), (hlow 18 (by decide) (by decide) (by decide) (by decide)).trans ((r2 18 (by decide) (by decide)).trans rfl), (hlow 19 (by decide) (by decide) (by decide) (by decide)).trans ((r2 19 (by decide) (by decide)).trans rfl), (hlow 20 (by decide) (by decide) (by decide) (by decide)).trans ((r2 20 (by decide) (by decide)).trans rfl), (hlow 21 (by decide) (by decide) (by decide) (by decide)).trans ((r2 21 (by decide) (by decide)).trans rfl), (hlow 22 (by decide) (by decide) (by decide) (by decide)).trans ((r2 22 (by decide) (by decide)).trans rfl)⟩
  · refine ⟨?_, fun q hq => ?_, ?_, fun q hq o h1 h2 => ?_⟩
    · rw [xoG_lo, if_neg (by omega)]; exact hlo.1
    · rw [v1] at hq
      have h9 := hlo.2.1 q hq
      rw [xoG_lo, xoG_lo, if_neg (by omega)]
      by_cases hz : q + 1 = sn P 4
      · rw [if_pos hz]
        rw [hz, hlo.2.2.1] at h9
        omega
      · rw [if_neg hz]; exact h9
    · rw [v1, v2, xoG_lo, if_pos rfl]
    · rw [v1] at hq
      rw [xoG_lo, if_neg (by omega)] at h1
      rw [xoG_lo] at h2
      rw [u1]
      by_cases hz : q + 1 = sn P 4
      · rw [if_pos hz] at h2
        by_cases ho : o = sn P 5
        · rw [ho, up_at]; omega
        · rw [up_ne _ _ ho]
          exact hlo.2.2.2 q hq o h1 (by rw [hz, hlo.2.2.1]; omega)
      · rw [if_neg hz] at h2
        have h5 := hlo.n5 (show q + 1 ≤ sn P 4 by omega)
        rw [up_ne _ _ (by omega)]
        exact hlo.2.2.2 q hq o h1 h2
  · obtain ⟨w, hw1, hw2⟩ := r5.2
    exact ⟨r5.1.imp id (fun z => z.mono (by omega)), w, (hil r5.1 hw1).trans hw1, hw2⟩
  · intro q hq
    rw [v1] at hq
    have g := r6 q hq
    obtain ⟨w, hw1, hw2⟩ := g.2.2.2
    refine g.keep2 (by omega) rfl rfl ?_ (hil g.2.2.1 hw1) (by rw [v4]) (fun k hk => by rw [v7])
    by_cases hz : q = p
    · rw [hz, cf _ (by have := hpa.2.1.1; omega) (by have := hpa.2.1.1; omega)]
      exact fA
    · rw [xoG_paq hpe hlo (show q < p by omega), ← g.1]
      refine hcf _ g.2.1 (kn ?_) (fun h => kn (by rw [g.1, (r7 _ (hlast h).1).1]; exact ob_kn (by decide)))
      rw [g.1, hpa.1]
      intro z
      have z2 := congrArg (fun x : va_E => match x with | .inr (_, l) => l[0]? | _ => none) z
      have z3 : some (Value.int (Int32.ofNat q)) = some (Value.int (Int32.ofNat p)) := z2
      have h20 := hI.2.1
      simp only [Option.some.injEq, Value.int.injEq] at z3
      rw [ix_eq (by omega) (by omega)] at z3
      exact hz z3
  · intro o ho
    rw [v2] at ho
    by_cases hz : o = sn P 5
    · subst hz
      have q3 : sN (mOb P) 3 (sn P 5) = p := by rw [u1, up_at]; omega
      have hmE : ∀ k, k < sn P 3 → mE (mOb P) (sn P 5) k = mes (sJ P 2) (mph P (sj P 0)) k := fun k hk => by
        unfold mE
        refine mes_cg k (fun j hj => ⟨?_, ?_⟩)
        · unfold mW; rw [q3, v7]; exact ht j (by omega)
        · show sI (mOb P) 4 (6 * sn P 5 + j) = _
          rw [u3]; unfold mcp; rw [if_pos (by omega), show 6 * sn P 5 + j - 6 * sn P 5 = j by omega]
      refine ⟨?_, ?_, ?_, ?_, ?_, ?_, ?_, fp, ?_, ?_⟩
      · rw [xoG_ob, if_pos rfl, cf _ (by omega) (by omega)]; exact fO
      · rw [xoG_ob, if_pos rfl]; exact ⟨h47, by omega⟩
      · rw [xoG_re, if_pos rfl, cf _ (by omega) (by omega), fR]
        refine ob_ex (fun i hi => match i, hi with | 0, _ => by show Value.ref (gwp G p) = .ref (gwp G (sN (mOb P) 3 (sn P 5))); rw [q3] | 1, _ => by show Value.ref (M.1 + 2) = .ref (gph (xoG P G M) (sn P 5)); rw [xoG_ph, if_pos rfl] | 2, _ => by show Value.ref (M.1 + 3) = .ref (ges (xoG P G M) (sn P 5)); rw [xoG_es, if_pos rfl] | k + 3, h => absurd h (by omega))
      · rw [xoG_re, if_pos rfl]; exact ⟨by omega, by omega⟩
      · rw [xoG_ph, if_pos rfl]; exact ⟨by omega, by omega⟩
      · rw [xoG_es, if_pos rfl]; exact ⟨by omega, by omega⟩
      · rw [xoG_es, if_pos rfl, q3, v4, hn]
        exact ⟨fe, (cf _ (by omega) (by omega)).trans fE, fun k hk => by rw [fE2 k hk, hmE k hk]⟩
      · rw [xoG_ph, if_pos rfl, q3, v4, hn, cf _ (by omega) (by omega)]; exact fP
      · rw [q3, v4, hn]
        intro k hk
        rw [fP2 k hk, u3]; unfold mcp; rw [if_pos (by omega), show 6 * sn P 5 + k - 6 * sn P 5 = k by omega]
    · have ho5 : o < sn P 5 := by omega
      have g := r7 o ho5
      have hp9 := hI.2.2.1 o ho5
      have g6 := (hI.2.2.2 _ hp9).2.1
      have q3 : sN (mOb P) 3 o = sN P 3 o := by rw [u1, up_ne _ _ hz]
      obtain ⟨g1, g2, g3, g4, g5, g6b, ⟨we, g7, -⟩, wf, g8, -⟩ := g
      refine (r7 o ho5).keep2 (by omega) (by rw [xoG_ob, if_neg hz]) (by rw [xoG_re, if_neg hz]) (by rw [xoG_ph, if_neg hz]) (by rw [xoG_es, if_neg hz]) ?_ (hcf _ g4 (kn (by rw [g3, hpa.1]; exact ob_kn (by decide))) (fun h => kn (by rw [g3, (r7 _ (hlast h).1).1]; exact ob_kn (by decide)))) (hil (Or.inr g5) g8) (hil (Or.inr g6b) g7) (by rw [q3]; rfl) (by rw [q3, v4]) (fun k hk => ⟨by unfold mW; rw [q3, v7], by rw [u3]; unfold mcp; rw [if_neg (by omega)]⟩)
      by_cases hc : o + 1 = sn P 5 ∧ sN P 3 o = p
      · have hgl : glo G p < sn P 5 := by have := (hlo.of ho5).1; rw [hc.2] at this; omega
        have hoe : o = sn P 5 - 1 := by omega
        have := fL hgl
        rw [← hoe] at this
        rw [cf _ (by have := g2.1; omega) (by have := g2.1; omega)]
        exact this
      · have := xoG_old hI hpe hlo ho5 (M := M)
        rw [if_neg hc] at this
        rw [← this, ← g1]
        refine hcf _ g2 (kn (by rw [g1, hpa.1]; exact ob_kn (by decide))) (fun h z => ?_)
        have z2 := r8 _ _ ho5 (hlast h).1 z
        exact hc ⟨by omega, by rw [z2]; exact (hlast h).2⟩
  · intro a b ha hb hab
    rw [v2] at ha hb
    rw [xoG_ob, xoG_ob] at hab
    by_cases h1 : a = sn P 5
    · by_cases h2 : b = sn P 5
      · omega
      · rw [if_pos h1, if_neg h2] at hab
        have := (r7 b (by omega)).2.1.2
        omega
    · by_cases h2 : b = sn P 5
      · rw [if_neg h1, if_pos h2] at hab
        have := (r7 a (by omega)).2.1.2
        omega
      · rw [if_neg h1, if_neg h2] at hab
        exact r8 a b (by omega) (by omega) hab
