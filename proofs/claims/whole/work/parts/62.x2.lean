/-! the class: what keeps the representation -/
def xFr (M M' : am_M) : Prop := M.1 ≤ M'.1 ∧ M'.2.1 ≤ M.2.1 + 12 ∧ M'.2.2.1 ≤ M.2.2.1 + 120 ∧ ∀ a, 23 ≤ a → a ≤ 46 → am_f M' a = am_f M a
def xPo (P' : am_S) (res : Option Value ⊕ Nat) (M : am_M) (r : Option Value ⊕ Nat) (M' : am_M) : Prop := r = res ∧ ∃ G' : xG, xRep P' G' M' ∧ xFr M M'
/-- a public method of the class -/
def xOp (k : Nat) (as : List Value) (P P' : am_S) (res : Option Value ⊕ Nat) : Prop :=
  ∀ (d : Nat) (M : am_M) (G : xG), xRep P G M → am_WC (d + 12) k (.ref 0 :: as) M (xPo P' res M)
theorem xFr.rf (M : am_M) : xFr M M := ⟨Nat.le_refl _, Nat.le_add_right _ _, Nat.le_add_right _ _, fun _ _ _ => rfl⟩
theorem x_pure {k : Nat} {as : List Value} {P : am_S} {res : Option Value ⊕ Nat} (h : ∀ (d : Nat) (M : am_M) (G : xG), xRep P G M → am_Call (d + 12) k (.ref 0 :: as) M (res, M)) : xOp k as P P res :=
  fun d M G r => ⟨_, _, h d M G r, rfl, G, r, xFr.rf M⟩
theorem xRep.pay {P : am_S} {G : xG} {M : am_M} (r : xRep P G M) (x y : Nat) : xRep P G (am_pay M x y) := r
theorem x_thr {k : Nat} {as : List Value} {P : am_S} {E : Nat} (h : ∀ (d : Nat) (M : am_M) (G : xG), xRep P G M → am_Call (d + 12) k (.ref 0 :: as) M (.inr E, am_pay M 1 6)) : xOp k as P P (.inr E) :=
  fun d M G r => ⟨_, _, h d M G r, rfl, G, r.pay 1 6, Nat.le_refl _, Nat.add_le_add_left (by decide) _, Nat.add_le_add_left (by decide) _, fun _ _ _ => rfl⟩
theorem x_set {k : Nat} {as : List Value} {P P' : am_S} {res : Option Value ⊕ Nat} (h : ∀ (d : Nat) (M : am_M) (G : xG), xRep P G M → ∃ M', am_Call (d + 12) k (.ref 0 :: as) M (res, M') ∧ ∃ G', xRep P' G' M' ∧ xFr M M') : xOp k as P P' res :=
  fun d M G r => by
    obtain ⟨M', h1, G', h2, h3⟩ := h d M G r
    exact ⟨_, _, h1, rfl, G', h2, h3⟩
theorem x_all {Q : Nat → Prop} (h : Q 0 ∧ Q 1 ∧ Q 2 ∧ Q 3 ∧ Q 4 ∧ Q 5 ∧ Q 6 ∧ Q 7 ∧ Q 8 ∧ Q 10 ∧ Q 11 ∧ Q 12 ∧ Q 13 ∧ Q 14 ∧ Q 15 ∧ Q 16 ∧ Q 17 ∧ Q 18 ∧ Q 19 ∧ Q 20 ∧ Q 21 ∧ Q 22) : ∀ c, c ≤ 22 → c ≠ 9 → Q c := by
  intro c h1 h2
  obtain ⟨h0, h1, h2, h3, h4, h5, h6, h7, h8, h10, h11, h12, h13, h14, h15, h16, h17, h18, h19, h20, h21, h22⟩ := h
  have : c = 0 ∨ c = 1 ∨ c = 2 ∨ c = 3 ∨ c = 4 ∨ c = 5 ∨ c = 6 ∨ c = 7 ∨ c = 8 ∨ c = 10 ∨ c = 11 ∨ c = 12 ∨ c = 13 ∨ c = 14 ∨ c = 15 ∨ c = 16 ∨ c = 17 ∨ c = 18 ∨ c = 19 ∨ c = 20 ∨ c = 21 ∨ c = 22 := by omega
  rcases this with rfl | rfl | rfl | rfl | rfl | rfl | rfl | rfl | rfl | rfl | rfl | rfl | rfl | rfl | rfl | rfl | rfl | rfl | rfl | rfl | rfl | rfl <;> assumption
theorem ob_ex {c n : Nat} {f g : Nat → Value} (h : ∀ i, i < n → f i = g i) : ob c n f = ob c n g := by
  unfold ob
  congr 1
  rw [Prod.mk.injEq]
  exact ⟨rfl, List.map_congr_left fun i hi => h i (by simpa using hi)⟩
def xSame (P P' : am_S) : Prop := sn P' 4 = sn P 4 ∧ sn P' 5 = sn P 5 ∧ (∀ i, 1 ≤ i → sN P' i = sN P i) ∧ (∀ i, 2 ≤ i → sI P' i = sI P i) ∧ ∀ i, 3 ≤ i → sJ P' i = sJ P i
theorem xSame.es2 {P P' : am_S} (h : xSame P P') (o : Nat) : mE P' o = mE P o := by
  obtain ⟨h4, h5, hN, hI, hJ⟩ := h
  funext k
  unfold mE mW
  rw [hJ 3 (by decide), hN 3 (by decide), hI 4 (by decide)]
theorem xSame.pa2 {P P' : am_S} (h : xSame P P') {G G' : xG} (hG : G'.1 = G.1) (p : Nat) : xpa P' G' p = xpa P G p := by
  obtain ⟨h4, h5, hN, hI, hJ⟩ := h
  funext i
  unfold xpa xfi xla gwp glo gob
  rw [hJ 3 (by decide), hJ 4 (by decide), hJ 5 (by decide), hJ 6 (by decide), hN 1 (by decide), hN 4 (by decide), hI 2 (by decide), hG]
theorem xSame.ob2 {P P' : am_S} (h : xSame P P') {G G' : xG} (hG : G'.1 = G.1) (o : Nat) : xob P' G' o = xob P G o := by
  obtain ⟨h4, h5, hN, hI, hJ⟩ := h
  funext i
  unfold xob xdc xbe xne gpa gre gob glo mMv
  rw [hJ 7 (by decide), hN 3 (by decide), hI 2 (by decide), hI 3 (by decide), hG]
theorem xSame.re2 {P P' : am_S} (h : xSame P P') {G G' : xG} (hG : G'.1 = G.1) (o : Nat) : xre P' G' o = xre P G o := by
  obtain ⟨h4, h5, hN, hI, hJ⟩ := h
  funext i
  unfold xre gwp gph ges
  rw [hN 3 (by decide), hG]
theorem xIn.mono {M M' : am_M} (h : M.1 ≤ M'.1) {a : Nat} (g : xIn M a) : xIn M' a := ⟨g.1, Nat.lt_of_lt_of_le g.2 h⟩
theorem xTn.keep {M M' : am_M} {a n : Nat} {F : Nat → Int64} (h : xTn M a n F) (e : am_f M' a = am_f M a) : xTn M' a n F := by
  obtain ⟨w, h1, h2⟩ := h
  exact ⟨w, e.trans h1, h2⟩
theorem xWs.keep {P P' : am_S} {G G' : xG} {M M' : am_M} (h : xWs P G M) (h3 : sn P' 3 = sn P 3) (hJ : sJ P' 2 = sJ P 2) (hG : gwc G' = gwc G) (hM : M.1 ≤ M'.1) (hf : ∀ a, a = 9 ∨ xIn M a → am_f M' a = am_f M a) : xWs P' G' M' := by
  obtain ⟨h1, h2⟩ := h
  refine ⟨?_, ?_⟩
  · rw [hG]
    exact h1.imp id (fun z => z.mono hM)
  · rw [hG, h3, hJ]
    exact h2.keep (hf _ h1)
theorem xPs.keep {P P' : am_S} {G G' : xG} {M M' : am_M} {p : Nat} (h : xPs P G M p) (hs : xSame P P') (hG : G'.1 = G.1) (hM : M.1 ≤ M'.1) (hf : ∀ a, a = 9 ∨ xIn M a → am_f M' a = am_f M a) : xPs P' G' M' p := by
  obtain ⟨h1, h2, h3, h4⟩ := h
  have ga : gpa G' p = gpa G p := by unfold gpa; rw [hG]
  have gb : gwp G' p = gwp G p := by unfold gwp; rw [hG]
  refine ⟨?_, ?_, ?_, ?_⟩
  · rw [ga, hf _ (Or.inr h2), h1, hs.pa2 hG]
  · rw [ga]; exact h2.mono hM
  · rw [gb]; exact h3.imp id (fun z => z.mono hM)
  · rw [gb, hs.2.2.1 2 (by decide), hs.2.2.2.2 3 (by decide)]
    exact h4.keep (hf _ h3)
theorem xOs.keep {P P' : am_S} {G G' : xG} {M M' : am_M} {o : Nat} (h : xOs P G M o) (hs : xSame P P') (hG : G'.1 = G.1) (hM : M.1 ≤ M'.1) (hf : ∀ a, xIn M a → am_f M' a = am_f M a) : xOs P' G' M' o := by
  obtain ⟨h1, h2, h3, h4, h5, h6, h7, f, h8, h9⟩ := h
  have ga : gob G' o = gob G o := by unfold gob; rw [hG]
  have gb : gre G' o = gre G o := by unfold gre; rw [hG]
  have gc : gph G' o = gph G o := by unfold gph; rw [hG]
  have gd : ges G' o = ges G o := by unfold ges; rw [hG]
  refine ⟨?_, ?_, ?_, ?_, ?_, ?_, ?_, f, ?_, ?_⟩
  · rw [ga, hf _ h2, h1, hs.ob2 hG]
  · rw [ga]; exact h2.mono hM
  · rw [gb, hf _ h4, h3, hs.re2 hG]
  · rw [gb]; exact h4.mono hM
  · rw [gc]; exact h5.mono hM
  · rw [gd]; exact h6.mono hM
  · rw [gd, hs.2.2.1 2 (by decide), hs.2.2.1 3 (by decide), hs.es2]
    exact h7.keep (hf _ h6)
  · rw [gc, hf _ h5, h8, hs.2.2.1 2 (by decide), hs.2.2.1 3 (by decide)]
  · rw [hs.2.2.1 2 (by decide), hs.2.2.1 3 (by decide), hs.2.2.2.1 4 (by decide)]
    exact h9
theorem xRep.fix {P P' : am_S} {G G' : xG} {M M' : am_M} (h : xRep P G M) (hs : xSame P P') (hG : G'.1 = G.1) (hM : M.1 ≤ M'.1) (hf : ∀ a, a = 9 ∨ xIn M a → am_f M' a = am_f M a)
    (hm : ∀ a, a ≤ 22 → a ≠ 9 → am_f M' a = xqm P' G' a) (hk : ∀ k, k < sn P' 0 → G'.2.1 0 k = sI P' 0 k ∧ G'.2.1 1 k = sI P' 1 k) (hw : xWs P' G' M') : xRep P' G' M' := by
  obtain ⟨h1, h2, h3, h4, h5, h6, h7, h8⟩ := h
  refine ⟨Nat.le_trans h1 hM, hm, hk, ?_, hw, fun p hp => ?_, fun o ho => ?_, ?_⟩
  · have gl : glo G' = glo G := by unfold glo; rw [hG]
    unfold xLo
    rw [gl, hs.1, hs.2.1, hs.2.2.1 3 (by decide)]
    exact h4
  · rw [hs.1] at hp
    exact (h6 p hp).keep hs hG hM hf
  · rw [hs.2.1] at ho
    exact (h7 o ho).keep hs hG hM (fun a ha => hf a (Or.inr ha))
  · have ga : gob G' = gob G := by unfold gob; rw [hG]
    rw [ga, hs.2.1]
    exact h8
