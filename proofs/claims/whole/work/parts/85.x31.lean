/-! the operations -/
def oI (n kc kw km : Nat) (as : List Value) (P : am_S) : Prop := ∃ P', xInv (n + 1) P' ∧ ((∃ y : Int32, xOp kc as P P' (.inl (some (.int y))) ∧ mOp km as P P' (some (.int y)) 0) ∨ ∃ kk y : Int32, ¬ kk = 0 ∧ (∀ (d : Nat) (M : am_M) (G : xG), xRep P G M → am_WC (d + 13) kw (.ref 0 :: (as ++ [.ref 45])) M (xWp P' kk 45 (am_f M 45) M)) ∧ mOp km as P P' (some (.int y)) kk)
def oJ (n kc kw km : Nat) (as : List Value) (P : am_S) : Prop := ∃ P', xInv (n + 1) P' ∧ ((∃ y : Int64, xOp kc as P P' (.inl (some (.long y))) ∧ mOp km as P P' (some (.long y)) 0) ∨ ∃ (kk : Int32) (y : Int64), ¬ kk = 0 ∧ (∀ (d : Nat) (M : am_M) (G : xG), xRep P G M → am_WC (d + 13) kw (.ref 0 :: (as ++ [.ref 45])) M (xWp P' kk 45 (am_f M 45) M)) ∧ mOp km as P P' (some (.long y)) kk)
def oD (n kc kw km : Nat) (as : List Value) (P : am_S) : Prop := ∃ P', xInv (n + 1) P' ∧ ((∃ y : UInt64, xOp kc as P P' (.inl (some (.double y))) ∧ mOp km as P P' (some (.double y)) 0) ∨ ∃ (kk : Int32) (y : UInt64), ¬ kk = 0 ∧ (∀ (d : Nat) (M : am_M) (G : xG), xRep P G M → am_WC (d + 13) kw (.ref 0 :: (as ++ [.ref 46])) M (xWp P' kk 46 (am_f M 46) M)) ∧ mOp km as P P' (some (.double y)) kk)
def oV (n kc kw km : Nat) (as : List Value) (P : am_S) : Prop := ∃ P', xInv (n + 1) P' ∧ ((xOp kc as P P' (.inl none) ∧ mOp km as P P' none 0) ∨ ∃ kk : Int32, ¬ kk = 0 ∧ (∀ (d : Nat) (M : am_M) (G : xG), xRep P G M → am_WC (d + 13) kw (.ref 0 :: as) M (xWp P' kk 45 (am_f M 45) M)) ∧ mOp km as P P' none kk)
def oZ (n kc kw km : Nat) (as : List Value) (P : am_S) : Prop := ∃ P', xInv (n + 1) P' ∧ ((xOp kc as P P' (.inl (some (.int 0))) ∧ mOp km as P P' (some (.int 0)) 0) ∨ (xOp kc as P P' (.inl (some (.int 1))) ∧ mOp km as P P' (some (.int 1)) 0) ∨ ∃ kk y : Int32, ¬ kk = 0 ∧ (∀ (d : Nat) (M : am_M) (G : xG), xRep P G M → am_WC (d + 13) kw (.ref 0 :: (as ++ [.ref 45])) M (xWp P' kk 45 (am_f M 45) M)) ∧ mOp km as P P' (some (.int y)) kk)
section
variable {n kc kw km : Nat} {as : List Value} {P P' : am_S}
theorem oI.t {y : Int32} (hv : xInv (n + 1) P') (hx : xOp kc as P P' (.inl (some (.int y)))) (hm : mOp km as P P' (some (.int y)) 0) : oI n kc kw km as P := ⟨P', hv, Or.inl ⟨y, hx, hm⟩⟩
theorem oI.e {kk y : Int32} (hv : xInv n P) (hk : ¬ kk = 0) (hw : ∀ (d : Nat) (M : am_M) (G : xG), xRep P G M → am_WC (d + 13) kw (.ref 0 :: (as ++ [.ref 45])) M (xWp P kk 45 (am_f M 45) M)) (hm : mOp km as P P (some (.int y)) kk) : oI n kc kw km as P := ⟨P, hv.up, Or.inr ⟨kk, y, hk, hw, hm⟩⟩
theorem oJ.t {y : Int64} (hv : xInv (n + 1) P') (hx : xOp kc as P P' (.inl (some (.long y)))) (hm : mOp km as P P' (some (.long y)) 0) : oJ n kc kw km as P := ⟨P', hv, Or.inl ⟨y, hx, hm⟩⟩
theorem oJ.e {kk : Int32} {y : Int64} (hv : xInv n P) (hk : ¬ kk = 0) (hw : ∀ (d : Nat) (M : am_M) (G : xG), xRep P G M → am_WC (d + 13) kw (.ref 0 :: (as ++ [.ref 45])) M (xWp P kk 45 (am_f M 45) M)) (hm : mOp km as P P (some (.long y)) kk) : oJ n kc kw km as P := ⟨P, hv.up, Or.inr ⟨kk, y, hk, hw, hm⟩⟩
theorem oD.t {y : UInt64} (hv : xInv (n + 1) P') (hx : xOp kc as P P' (.inl (some (.double y)))) (hm : mOp km as P P' (some (.double y)) 0) : oD n kc kw km as P := ⟨P', hv, Or.inl ⟨y, hx, hm⟩⟩
theorem oD.e {kk : Int32} {y : UInt64} (hv : xInv n P) (hk : ¬ kk = 0) (hw : ∀ (d : Nat) (M : am_M) (G : xG), xRep P G M → am_WC (d + 13) kw (.ref 0 :: (as ++ [.ref 46])) M (xWp P kk 46 (am_f M 46) M)) (hm : mOp km as P P (some (.double y)) kk) : oD n kc kw km as P := ⟨P, hv.up, Or.inr ⟨kk, y, hk, hw, hm⟩⟩
theorem oV.t (hv : xInv (n + 1) P') (hx : xOp kc as P P' (.inl none)) (hm : mOp km as P P' none 0) : oV n kc kw km as P := ⟨P', hv, Or.inl ⟨hx, hm⟩⟩
theorem oV.e {kk : Int32} (hv : xInv n P) (hk : ¬ kk = 0) (hw : ∀ (d : Nat) (M : am_M) (G : xG), xRep P G M → am_WC (d + 13) kw (.ref 0 :: as) M (xWp P kk 45 (am_f M 45) M)) (hm : mOp km as P P none kk) : oV n kc kw km as P := ⟨P, hv.up, Or.inr ⟨kk, hk, hw, hm⟩⟩
theorem oZ.e {kk y : Int32} (hv : xInv n P) (hk : ¬ kk = 0) (hw : ∀ (d : Nat) (M : am_M) (G : xG), xRep P G M → am_WC (d + 13) kw (.ref 0 :: (as ++ [.ref 45])) M (xWp P kk 45 (am_f M 45) M)) (hm : mOp km as P P (some (.int y)) kk) : oZ n kc kw km as P := ⟨P, hv.up, Or.inr (Or.inr ⟨kk, y, hk, hw, hm⟩)⟩
end
theorem of_nn (a : Int32) (h : 0 ≤ a.toInt) : ∃ N : Nat, a = Int32.ofNat N ∧ (N : Int) = a.toInt := by
  have hb := Int32.toInt_lt a
  refine ⟨a.toInt.toNat, ?_, by omega⟩
  rw [← Int32.toInt_inj, Int32.toInt_ofNat_of_lt (by omega)]
  omega
theorem nl64 {a b : Int64} (h : ¬ a < b) : b ≤ a := by
  rw [Int64.lt_iff_toInt_lt] at h
  rw [Int64.le_iff_toInt_le]
  omega
theorem nn64 {a b : Int64} (h : a < b) : ¬ b ≤ a := by
  rw [Int64.lt_iff_toInt_lt] at h
  rw [Int64.le_iff_toInt_le]
  omega
theorem ixo10 {s : Int32} : (0 ≤ s.toInt64 ∧ s.toInt64 ≤ 9) ↔ ixo 10 s := by
  unfold ixo
  rw [show (Int32.ofNat 10 - 1).toInt64 = 9 by decide]
theorem mcnt_le (P : am_S) (p : Int32) : ∀ n, mcnt P p n ≤ n := by
  intro n
  induction n with
  | zero => exact Nat.le_refl _
  | succ n ih =>
    rw [mcnt]
    split <;> omega
theorem line_cases {P : am_S} {lo : Nat → Nat} (h : xLo P lo) (hI : mInv P) {p : Nat} (hp : p < sn P 4) : (∃ a m, mPa2 P p a m ∧ mHt P a m) ∨ mNl P p := by
  by_cases hlt : lo p < lo (p + 1)
  · have hP := lo_pa h hI hp hlt
    by_cases hH : mHt P (lo p) (lo (p + 1) - lo p)
    · exact Or.inl ⟨_, _, hP, hH⟩
    · exact Or.inr (Or.inr ⟨_, _, hP, hH⟩)
  · have := lo_cnt h hI hp
    exact Or.inr (Or.inl (by omega))
theorem lo_mfo {P : am_S} {lo : Nat → Nat} (h : xLo P lo) (hI : mInv P) {o : Nat} (ho : o < sn P 5) : mFo P (lo (sN P 3 o)) o := by
  obtain ⟨h1, h2⟩ := h.of ho
  have hp := hI.2.2.1 o ho
  exact ⟨h1, h.2.2.2 _ hp _ (Nat.le_refl _) (by omega), fun k hk => h.ne hI hp (by omega) (Or.inl hk)⟩
theorem iH.no {P : am_S} (h : sn P 6 = 0) : iH P := fun z => absurd h z
theorem st_0 {n : Nat} {P : am_S} (hv : xInv n P) (a : Int64) (b : Int32) : oV n 28 189 109 [.long a, .int b] P := by
  by_cases h : 0 ≤ a ∧ a ≤ 10000000000000
  · by_cases h2 : -10000000 ≤ b.toInt64 ∧ b.toInt64 ≤ 10000000
    · by_cases hr : sn P 6 = 0
      · obtain ⟨hA, hB, hC, hD, hE, hF, hG, hH, hM⟩ := hv
        have a1 : 0 ≤ a.toInt := le64 h.1
        have a2 : a.toInt ≤ 10000000000000 := le64 h.2
        have b1 : -10000000 ≤ b.toInt := le32l h2.1
        have b2 : b.toInt ≤ 10000000 := le32r h2.2
        refine oV.t (P' := ui (uj P 0 a) 0 b) ⟨hA, hB, hC, ?_, hE, hF.up, hG, iH.no hr, ?_⟩ (xo_28t a b h h2 hr) (mo_109t a b h h2 hr)
        · refine ⟨?_, hD.2⟩
          show -(10005000 * (si P 1).toInt) ≤ a.toInt ∧ a.toInt ≤ 10000000000000 + 10005000 * (si P 1).toInt
          have := hC.1.1
          omega
        · exact ⟨hM.1, hM.2.1, b1, b2⟩
      · exact oV.e hv (by decide) (fun d M G r => wo_189e2 _ _ (xo_28c a b h h2 hr) r d) (mo_109c a b h h2 hr hv.2.2.2.2.2.1.1)
    · exact oV.e hv (by decide) (fun d M G r => wo_189e1 _ _ (xo_28b a b h h2) r d) (mo_109b a b h h2)
  · exact oV.e hv (by decide) (fun d M G r => wo_189e1 _ _ (xo_28a a b h) r d) (mo_109a a b h)
theorem st_1 {n : Nat} {P : am_S} (hv : xInv n P) (a b : Int32) : oI n 29 190 110 [.int a, .int b] P := by
  by_cases h : 1 ≤ a.toInt64 ∧ a.toInt64 ≤ 1000
  · by_cases h2 : -10000 ≤ b.toInt64 ∧ b.toInt64 ≤ 10000
    · by_cases hs : sn P 0 < 20
      · obtain ⟨hA, hB, hC, hD, hE, hF, hG, hH, hM⟩ := hv
        have a1 : 1 ≤ a.toInt := le32l h.1
        have a2 : a.toInt ≤ 1000 := le32r h.2
        have b1 : -10000 ≤ b.toInt := le32l h2.1
        have b2 : b.toInt ≤ 10000 := le32r h2.2
        refine oI.t (P' := un (uI (uI P 0 (va_up (sI P 0) (sn P 0) a)) 1 (va_up (sI P 1) (sn P 0) b)) 0 (sn P 0 + 1)) ⟨hA, hB, hC, hD, hE, hF.up, hG, hH, ?_⟩ (xo_29t a b h h2 hs) (mo_110t a b h h2 hs)
        refine ⟨show sn P 0 + 1 ≤ 20 by omega, fun k hk => ?_, hM.2.2⟩
        have hk : k < sn P 0 + 1 := hk
        show 1 ≤ (va_up (sI P 0) (sn P 0) a k).toInt ∧ (va_up (sI P 0) (sn P 0) a k).toInt ≤ 1000 ∧ -10000 ≤ (va_up (sI P 1) (sn P 0) b k).toInt ∧ (va_up (sI P 1) (sn P 0) b k).toInt ≤ 10000
        by_cases hz : k = sn P 0
        · rw [hz, up_at, up_at]; exact ⟨a1, a2, b1, b2⟩
        · rw [up_ne _ _ hz, up_ne _ _ hz]; exact hM.2.1 k (by omega)
      · have hs : sn P 0 = 20 := by have := hv.2.2.2.2.2.2.2.2.1; omega
        exact oI.e hv (by decide) (fun d M G r => wo_190e2 _ _ (xo_29c a b h h2 hs (by rw [hs]; decide)) r d) (mo_110c a b h h2 hs)
    · exact oI.e hv (by decide) (fun d M G r => wo_190e1 _ _ (xo_29b a b h h2) r d) (mo_110b a b h h2)
  · exact oI.e hv (by decide) (fun d M G r => wo_190e1 _ _ (xo_29a a b h) r d) (mo_110a a b h)
theorem st_3 {n : Nat} {P : am_S} (hv : xInv n P) (a : Int32) : oI n 31 191 115 [.int a] P := by
  by_cases h : 1 ≤ a.toInt64 ∧ a.toInt64 ≤ 1000
  · have a1 : 1 ≤ a.toInt := le32l h.1
    have a2 : a.toInt ≤ 1000 := le32r h.2
    have hC := hv.2.2.1
    obtain ⟨N, rfl, hN⟩ := of_nn a (by omega)
    have hs : (si P 1 + Int32.ofNat N).toInt = (si P 1).toInt + N := by
      rw [Int32.toInt_add, ← hN]
      have := hC.1
      apply Int.bmod_eq_of_le_mul_two <;> omega
    have em : (1000000 : Int32).toInt = 1000000 := rfl
    by_cases ht : si P 1 + Int32.ofNat N ≤ (1000000 : Int32)
    · obtain ⟨hA, hB, hC, hD, hE, hF, hG, hH, hM⟩ := hv
      have ht2 := Int32.le_iff_toInt_le.mp ht
      rw [hs, em] at ht2
      have hmb := mit_b hM (by have := hD.1.1; have := hC.1; omega) (by have := hD.1.2; have := hC.1; omega) N (by omega)
      refine oI.t (P' := mRu P N) ⟨hA, hB, ?_, ?_, hE, hF.up, ?_, hH, ?_⟩ (xo_31t (by omega) h ht hM) (mo_115t (by omega) hM.1 h (by rw [Int32.lt_iff_toInt_lt, hs, em]; omega))
      · refine ⟨?_, hC.2⟩
        show 0 ≤ (si P 1 + Int32.ofNat N).toInt ∧ (si P 1 + Int32.ofNat N).toInt ≤ 1000000
        rw [hs]
        have := hC.1
        omega
      · refine ⟨?_, hD.2⟩
        show -(10005000 * (si P 1 + Int32.ofNat N).toInt) ≤ (mit P N).1.toInt ∧ (mit P N).1.toInt ≤ 10000000000000 + 10005000 * (si P 1 + Int32.ofNat N).toInt
        rw [hs]
        have := hD.1
        omega
      · refine ⟨fun o ho => ⟨(hG.1 o ho).1, ⟨(hG.1 o ho).2.1.1, ?_⟩, (hG.1 o ho).2.2⟩, hG.2⟩
        show (sI P 3 o).toInt ≤ (si P 1 + Int32.ofNat N).toInt
        rw [hs]
        have := (hG.1 o ho).2.1.2
        omega
      · exact mRu_HB hM N
    · exact oI.e hv (by decide) (fun d M G r => wo_191e2 _ (xo_31c _ h ht) r d) (mo_115c _ h (by rw [Int32.le_iff_toInt_le, hs, em] at ht; rw [Int32.lt_iff_toInt_lt, hs, em]; omega))
  · exact oI.e hv (by decide) (fun d M G r => wo_191e1 _ (xo_31a a h) r d) (mo_115a a h)
theorem st_7 {n : Nat} {P : am_S} (hv : xInv n P) (a : Int32) : oJ n 35 192 119 [.int a] P := by
  by_cases h : 0 ≤ a.toInt64 ∧ a.toInt64 ≤ 1000
  · have a1 : 0 ≤ a.toInt := le32l h.1
    have a2 : a.toInt ≤ 1000 := le32r h.2
    obtain ⟨N, rfl, hN⟩ := of_nn a (by omega)
    have hM := hv.2.2.2.2.2.2.2.2
    exact oJ.t hv.up (xo_35t (by omega) h hM) (mo_119t (by omega) hM.1 h)
  · exact oJ.e hv (by decide) (fun d M G r => wo_192e1 _ (xo_35a a h) r d) (mo_119f a h)
theorem st_8 {n : Nat} {P : am_S} (hv : xInv n P) (a : Int32) : oI n 36 193 120 [.int a] P := by
  by_cases h : 0 ≤ a.toInt64 ∧ a.toInt64 ≤ 1000
  · have a1 : 0 ≤ a.toInt := le32l h.1
    have a2 : a.toInt ≤ 1000 := le32r h.2
    obtain ⟨N, rfl, hN⟩ := of_nn a (by omega)
    have hM := hv.2.2.2.2.2.2.2.2
    exact oI.t hv.up (xo_36t (by omega) h hM) (mo_120t (by omega) hM.1 h)
  · exact oI.e hv (by decide) (fun d M G r => wo_193e1 _ (xo_36a a h) r d) (mo_120f a h)
theorem st_9 {n : Nat} {P : am_S} (hv : xInv n P) (s : Int32) (a : Int64) : oJ n 37 194 122 [.int s, .long a] P := by
  by_cases h : 0 ≤ s.toInt64 ∧ s.toInt64 ≤ 9
  · obtain ⟨k, rfl, hk⟩ := ixo_t (by omega) (ixo10.mp h)
    by_cases h2 : 0 ≤ a ∧ a ≤ 1000000000
    · obtain ⟨hA, hB, hC, hD, hE, hF, hG, hH, hM⟩ := hv
      exact oJ.t (P' := uJ P 0 (va_up (sJ P 0) k a)) ⟨hA, hB, hC, hD, hE, hF.up, hG, hH, hM⟩ (xo_37t a hk h2) (mo_122t a hk h h2)
    · exact oJ.e hv (by decide) (fun d M G r => wo_194e1 _ _ (xo_37b a hk h2) r d) (mo_122b _ a h h2)
  · have hs := ixo_f (by omega) (fun z => h (ixo10.mpr z))
    exact oJ.e hv (by decide) (fun d M G r => wo_194e1 _ _ (xo_37a a hs) r d) (mo_122a s a h)
theorem st_10 {n : Nat} {P : am_S} (hv : xInv n P) (s : Int32) : oI n 38 195 123 [.int s] P := by
  by_cases h : 0 ≤ s.toInt64 ∧ s.toInt64 ≤ 9
  · obtain ⟨k, rfl, hk⟩ := ixo_t (by omega) (ixo10.mp h)
    by_cases hr : sn P 6 = 0
    · obtain ⟨hA, hB, hC, hD, hE, hF, hG, hH, hM⟩ := hv
      exact oI.t (P' := un P 2 k) ⟨⟨hA.1, hA.2.1, hA.2.2.1, hk, hA.2.2.2.2⟩, hB, hC, hD, hE, hF.up, hG, iH.no hr, hM⟩ (xo_38t hk hA.2.2.2.1 hr) (mo_123t h hr)
    · exact oI.e hv (by decide) (fun d M G r => wo_195e2 _ (xo_38c hk hr) r d) (mo_123c _ h hr hv.2.2.2.2.2.1.1)
  · have hs := ixo_f (by omega) (fun z => h (ixo10.mpr z))
    exact oI.e hv (by decide) (fun d M G r => wo_195e1 _ (xo_38a hs) r d) (mo_123a s h)
theorem st_11 {n : Nat} {P : am_S} (hv : xInv n P) (a : Int64) : oI n 39 196 124 [.long a] P := by
  have h36 := hv.1.2.2.2.2
  have h20 := hv.2.2.2.2.2.1.1
  by_cases h : 1000 ≤ a ∧ a ≤ 1000000000000
  · by_cases ht : sn P 3 = 0
    · by_cases hr : sn P 6 = 0
      · obtain ⟨hA, hB, hC, hD, hE, hF, hG, hH, hM⟩ := hv
        refine oI.t (P' := un (uJ P 2 (va_up (sJ P 2) (sn P 3) a)) 3 (sn P 3 + 1)) ⟨?_, ?_, hC, hD, hE, hF.up, hG, iH.no hr, hM⟩ (xo_39t0 a h ht hr) (mo_124t0 a h ht hr)
        · exact ⟨hA.1, hA.2.1, hA.2.2.1, hA.2.2.2.1, show sn P 3 + 1 ≤ 6 by omega⟩
        · intro k hk
          have hk : k < sn P 3 + 1 := hk
          show 1000 ≤ (va_up (sJ P 2) (sn P 3) a k).toInt ∧ (va_up (sJ P 2) (sn P 3) a k).toInt ≤ 1000000000000
          by_cases hz : k = sn P 3
          · rw [hz, up_at]; exact ⟨le64 h.1, le64 h.2⟩
          · rw [up_ne _ _ hz]; exact hB k (by omega)
      · exact oI.e hv (by decide) (fun d M G r => wo_196e2 _ (xo_39e0 a h ht hr) r d) (mo_124e0 a h ht hr h20)
    · have ht : 0 < sn P 3 := by omega
      by_cases hl : a < sJ P 2 (sn P 3 - 1)
      · by_cases h6 : sn P 3 < 6
        · by_cases hr : sn P 6 = 0
          · obtain ⟨hA, hB, hC, hD, hE, hF, hG, hH, hM⟩ := hv
            refine oI.t (P' := un (uJ P 2 (va_up (sJ P 2) (sn P 3) a)) 3 (sn P 3 + 1)) ⟨?_, ?_, hC, hD, hE, hF.up, hG, iH.no hr, hM⟩ (xo_39t1 a h ht h6 hl hr) (mo_124t1 a h ht h6 (nn64 hl) hr)
            · exact ⟨hA.1, hA.2.1, hA.2.2.1, hA.2.2.2.1, show sn P 3 + 1 ≤ 6 by omega⟩
            · intro k hk
              have hk : k < sn P 3 + 1 := hk
              show 1000 ≤ (va_up (sJ P 2) (sn P 3) a k).toInt ∧ (va_up (sJ P 2) (sn P 3) a k).toInt ≤ 1000000000000
              by_cases hz : k = sn P 3
              · rw [hz, up_at]; exact ⟨le64 h.1, le64 h.2⟩
              · rw [up_ne _ _ hz]; exact hB k (by omega)
          · exact oI.e hv (by decide) (fun d M G r => wo_196e2 _ (xo_39e1 a h ht h6 hl hr) r d) (mo_124e1 a h ht h6 (nn64 hl) hr h20)
        · have h6 : sn P 3 = 6 := by omega
          exact oI.e hv (by decide) (fun d M G r => wo_196e2 _ (xo_39d a h ht h6 hl) r d) (mo_124d a h ht h6 (nn64 hl))
      · exact oI.e hv (by decide) (fun d M G r => wo_196e1 _ (xo_39b a h ht h36 hl) r d) (mo_124b a h ht h36 (nl64 hl))
  · exact oI.e hv (by decide) (fun d M G r => wo_196e1 _ (xo_39a a h) r d) (mo_124a a h)
theorem st_12 {n : Nat} {P : am_S} (hv : xInv n P) : oI n 40 197 125 [] P := by
  have h36 := hv.1.2.2.2.2
  have h20 := hv.2.2.2.2.2.1.1
  by_cases ht : sn P 3 = 0
  · exact oI.e hv (by decide) (fun d M G r => wo_197e1 (xo_40a ht) r d) (mo_125a ht)
  · have ht : 0 < sn P 3 := by omega
    by_cases hr : sn P 6 = 0
    · obtain ⟨hA, hB, hC, hD, hE, hF, hG, hH, hM⟩ := hv
      refine oI.t (P' := un P 3 (sn P 3 - 1)) ⟨?_, ?_, hC, hD, hE, hF.up, hG, iH.no hr, hM⟩ (xo_40t ht h36 hr) (mo_125t ht h36 hr)
      · exact ⟨hA.1, hA.2.1, hA.2.2.1, hA.2.2.2.1, show sn P 3 - 1 ≤ 6 by omega⟩
      · exact fun k hk => hB k (by have hk : k < sn P 3 - 1 := hk; omega)
    · exact oI.e hv (by decide) (fun d M G r => wo_197e1 (xo_40b ht h36 hr) r d) (mo_125b ht h36 hr h20)
theorem st_14 {n : Nat} {P : am_S} (hv : xInv n P) (s : Int32) : oJ n 42 198 127 [.int s] P := by
  have hI := hv.hI
  have hW := hv.hW
  have h20 := hI.2.1
  have h100 := hI.1
  have h36 := hv.1.2.2.2.2
  by_cases h : ixo (sn P 3) s
  · obtain ⟨k, rfl, hk⟩ := ixo_t (by omega) h
    exact oJ.t hv.up (xo_42t hk h36) (mo_127t (by omega) h)
  · have hs := ixo_f (by omega) h
    exact oJ.e hv (by decide) (fun d M G r => wo_198e1 _ (xo_42f hs) r d) (mo_127f s h)
theorem st_20 {n : Nat} {P : am_S} (hv : xInv n P) (s : Int32) : oI n 48 203 137 [.int s] P := by
  have hI := hv.hI
  have hW := hv.hW
  have h20 := hI.2.1
  have h100 := hI.1
  have h10 := hv.1.1
  by_cases h : ixo (sn P 1) s
  · obtain ⟨k, rfl, hk⟩ := ixo_t (by omega) h
    exact oI.t hv.up (xo_48t hk h10 (hv.1.2.1 k hk)) (mo_137t (by omega) h)
  · have hs := ixo_f (by omega) h
    exact oI.e hv (by decide) (fun d M G r => wo_203e1 _ (xo_48f hs h10) r d) (mo_137f s h)
theorem st_26 {n : Nat} {P : am_S} (hv : xInv n P) (s : Int32) : oI n 54 208 147 [.int s] P := by
  have hI := hv.hI
  have hW := hv.hW
  have h20 := hI.2.1
  have h100 := hI.1
  by_cases h : ixo (sn P 4) s
  · obtain ⟨k, rfl, hk⟩ := ixo_t (by omega) h
    exact oI.t hv.up (xo_54t hk h20 (fun M G r => (lo_cnt (xm_lo r) hI hk).symm)) (mo_147t _ h h100)
  · have hs := ixo_f (by omega) h
    exact oI.e hv (by decide) (fun d M G r => wo_208e1 _ (xo_54f hs h20) r d) (mo_147f s h)
theorem st_27 {n : Nat} {P : am_S} (hv : xInv n P) (s : Int32) : oI n 55 209 148 [.int s] P := by
  have hI := hv.hI
  have hW := hv.hW
  have h20 := hI.2.1
  have h100 := hI.1
  by_cases h : ixo (sn P 5) s
  · obtain ⟨k, rfl, hk⟩ := ixo_t (by omega) h
    exact oI.t hv.up (xo_55t hk h100) (mo_148t (by omega) h)
  · have hs := ixo_f (by omega) h
    exact oI.e hv (by decide) (fun d M G r => wo_209e1 _ (xo_55f hs h100) r d) (mo_148f s h)
theorem st_28 {n : Nat} {P : am_S} (hv : xInv n P) (s : Int32) : oI n 56 210 149 [.int s] P := by
  have hI := hv.hI
  have hW := hv.hW
  have h20 := hI.2.1
  have h100 := hI.1
  by_cases h : ixo (sn P 5) s
  · obtain ⟨k, rfl, hk⟩ := ixo_t (by omega) h
    exact oI.t hv.up (xo_56t hk h100 (hI.2.2.1 k hk)) (mo_149t (by omega) h)
  · have hs := ixo_f (by omega) h
    exact oI.e hv (by decide) (fun d M G r => wo_210e1 _ (xo_56f hs h100) r d) (mo_149f s h)
theorem st_30 {n : Nat} {P : am_S} (hv : xInv n P) (s : Int32) : oJ n 58 212 151 [.int s] P := by
  have hI := hv.hI
  have hW := hv.hW
  have h20 := hI.2.1
  have h100 := hI.1
  by_cases h : ixo (sn P 5) s
  · obtain ⟨k, rfl, hk⟩ := ixo_t (by omega) h
    exact oJ.t hv.up (xo_58t hk h100) (mo_151t (by omega) h)
  · have hs := ixo_f (by omega) h
    exact oJ.e hv (by decide) (fun d M G r => wo_212e1 _ (xo_58f hs h100) r d) (mo_151f s h)
theorem st_34 {n : Nat} {P : am_S} (hv : xInv n P) (s : Int32) : oJ n 62 215 159 [.int s] P := by
  have hI := hv.hI
  have hW := hv.hW
  have h20 := hI.2.1
  have h100 := hI.1
  by_cases h : ixo (sn P 5) s
  · obtain ⟨k, rfl, hk⟩ := ixo_t (by omega) h
    exact oJ.t hv.up (xo_62t hI hW hk) (mo_159t hI hk h)
  · have hs := ixo_f (by omega) h
    exact oJ.e hv (by decide) (fun d M G r => wo_215e1 _ (xo_62f hs h100) r d) (mo_159f s h)
theorem st_38 {n : Nat} {P : am_S} (hv : xInv n P) (s : Int32) : oJ n 66 219 170 [.int s] P := by
  have hI := hv.hI
  have hW := hv.hW
  have h20 := hI.2.1
  have h100 := hI.1
  by_cases h : ixo (sn P 5) s
  · obtain ⟨k, rfl, hk⟩ := ixo_t (by omega) h
    rcases mFb_01 P k with hf | hf
    · exact oJ.t hv.up (xo_66t hI hW hk hf) (mo_170t hI hk h hf)
    · exact oJ.e hv (by decide) (fun d M G r => wo_219e2 _ (xo_66c hI hW hk hf) r d) (mo_170c hI hk h hf)
  · have hs := ixo_f (by omega) h
    exact oJ.e hv (by decide) (fun d M G r => wo_219e1 _ (xo_66f hs h100) r d) (mo_170f s h)
theorem st_39 {n : Nat} {P : am_S} (hv : xInv n P) (s : Int32) : oJ n 67 220 171 [.int s] P := by
  have hI := hv.hI
  have hW := hv.hW
  have h20 := hI.2.1
  have h100 := hI.1
  by_cases h : ixo (sn P 5) s
  · obtain ⟨k, rfl, hk⟩ := ixo_t (by omega) h
    rcases mFb_01 P k with hf | hf
    · exact oJ.t hv.up (xo_67t hI hW hk hf) (mo_171t hI hk h hf)
    · exact oJ.e hv (by decide) (fun d M G r => wo_220e2 _ (xo_67c hI hW hk hf) r d) (mo_171c hI hk h hf)
  · have hs := ixo_f (by omega) h
    exact oJ.e hv (by decide) (fun d M G r => wo_220e1 _ (xo_67f hs h100) r d) (mo_171f s h)
theorem st_41 {n : Nat} {P : am_S} (hv : xInv n P) (s : Int32) : oI n 69 222 173 [.int s] P := by
  have hI := hv.hI
  have hW := hv.hW
  have h20 := hI.2.1
  have h100 := hI.1
  by_cases h : ixo (sn P 4) s
  · obtain ⟨k, rfl, hk⟩ := ixo_t (by omega) h
    exact oI.t hv.up (xo_69t hI hW hk (fun o ho hf => hv.In ho hf)) (mo_173t _ h hI)
  · have hs := ixo_f (by omega) h
    exact oI.e hv (by decide) (fun d M G r => wo_222e1 _ (xo_69f hs h20) r d) (mo_173f s h)
theorem st_42 {n : Nat} {P : am_S} (hv : xInv n P) (s : Int32) : oD n 70 223 175 [.int s] P := by
  have hI := hv.hI
  have hW := hv.hW
  have h20 := hI.2.1
  have h100 := hI.1
  by_cases h : ixo (sn P 4) s
  · obtain ⟨k, rfl, hk⟩ := ixo_t (by omega) h
    have hle := mcnt_le P (Int32.ofNat k) (sn P 5)
    by_cases hc : 2 ≤ mcnt P (Int32.ofNat k) (sn P 5)
    · exact oD.t hv.up (xo_70t hI hW hk hc) (mo_175t _ h hI (by rw [show (1 : Int32) = Int32.ofNat 1 from rfl, ix_le (by omega) (by omega)]; omega))
    · exact oD.e hv (by decide) (fun d M G r => wo_223e2 _ (xo_70c hI hW hk hc) r d) (mo_175c _ h hI (by rw [show (1 : Int32) = Int32.ofNat 1 from rfl, ix_le (by omega) (by omega)]; omega))
  · have hs := ixo_f (by omega) h
    exact oD.e hv (by decide) (fun d M G r => wo_223e1 _ (xo_70f hs h20) r d) (mo_175f s h)
theorem st_43 {n : Nat} {P : am_S} (hv : xInv n P) (s : Int32) : oD n 71 224 176 [.int s] P := by
  have hI := hv.hI
  have hW := hv.hW
  have h20 := hI.2.1
  have h100 := hI.1
  by_cases h : ixo (sn P 4) s
  · obtain ⟨k, rfl, hk⟩ := ixo_t (by omega) h
    have hle := mcnt_le P (Int32.ofNat k) (sn P 5)
    by_cases hc : 2 ≤ mcnt P (Int32.ofNat k) (sn P 5)
    · exact oD.t hv.up (xo_71t hI hW hk hc) (mo_176t _ h hI (by rw [show (1 : Int32) = Int32.ofNat 1 from rfl, ix_le (by omega) (by omega)]; omega))
    · exact oD.e hv (by decide) (fun d M G r => wo_224e2 _ (xo_71c hI hW hk hc) r d) (mo_176c _ h hI (by rw [show (1 : Int32) = Int32.ofNat 1 from rfl, ix_le (by omega) (by omega)]; omega))
  · have hs := ixo_f (by omega) h
    exact oD.e hv (by decide) (fun d M G r => wo_224e1 _ (xo_71f hs h20) r d) (mo_176f s h)
theorem st_45 {n : Nat} {P : am_S} (hv : xInv n P) {lo : Nat → Nat} (hlo : xLo P lo) (s : Int32) : oJ n 73 226 179 [.int s] P := by
  have hI := hv.hI
  have hW := hv.hW
  have h20 := hI.2.1
  have h100 := hI.1
  have hC := hv.2.2.1.2.2.2
  by_cases h : ixo (sn P 5) s
  · obtain ⟨k, rfl, hk⟩ := ixo_t (by omega) h
    have hF := lo_mfo hlo hI hk
    exact oJ.t hv.up (xo_73t hI hW hk hC.1 hC.2 (fun M G r => lo_fo (xm_lo r) hk hF)) (mo_179t hI hk hF (pos32 hC.1).2 h)
  · have hs := ixo_f (by omega) h
    exact oJ.e hv (by decide) (fun d M G r => wo_226e1 _ (xo_73f hs h100) r d) (mo_179f s h)
theorem st_46 {n : Nat} {P : am_S} (hv : xInv n P) {lo : Nat → Nat} (hlo : xLo P lo) (s : Int32) : oD n 74 227 183 [.int s] P := by
  have hI := hv.hI
  have hW := hv.hW
  have h20 := hI.2.1
  have h100 := hI.1
  by_cases h : ixo (sn P 4) s
  · obtain ⟨k, rfl, hk⟩ := ixo_t (by omega) h
    rcases line_cases hlo hI hk with ⟨a, m, hP, hH⟩ | hN
    · exact oD.t hv.up (xo_74t hI hW hP hH) (mo_183t h hI hP hH)
    · exact oD.e hv (by decide) (fun d M G r => wo_227e2 _ (xo_74c hI hk hN) r d) (mo_183c h hI hN)
  · have hs := ixo_f (by omega) h
    exact oD.e hv (by decide) (fun d M G r => wo_227e1 _ (xo_74f hs h20) r d) (mo_183f s h)
theorem st_47 {n : Nat} {P : am_S} (hv : xInv n P) {lo : Nat → Nat} (hlo : xLo P lo) (s : Int32) : oD n 75 228 184 [.int s] P := by
  have hI := hv.hI
  have hW := hv.hW
  have h20 := hI.2.1
  have h100 := hI.1
  by_cases h : ixo (sn P 4) s
  · obtain ⟨k, rfl, hk⟩ := ixo_t (by omega) h
    rcases line_cases hlo hI hk with ⟨a, m, hP, hH⟩ | hN
    · exact oD.t hv.up (xo_75t hI hW hP hH) (mo_184t h hI hP hH)
    · exact oD.e hv (by decide) (fun d M G r => wo_228e2 _ (xo_75c hI hk hN) r d) (mo_184c h hI hN)
  · have hs := ixo_f (by omega) h
    exact oD.e hv (by decide) (fun d M G r => wo_228e1 _ (xo_75f hs h20) r d) (mo_184f s h)
theorem st_48 {n : Nat} {P : am_S} (hv : xInv n P) {lo : Nat → Nat} (hlo : xLo P lo) (s : Int32) : oD n 76 229 185 [.int s] P := by
  have hI := hv.hI
  have hW := hv.hW
  have h20 := hI.2.1
  have h100 := hI.1
  by_cases h : ixo (sn P 5) s
  · obtain ⟨k, rfl, hk⟩ := ixo_t (by omega) h
    rcases line_cases hlo hI (hI.2.2.1 k hk) with ⟨a, m, hP, hH⟩ | hN
    · exact oD.t hv.up (xo_76t hI hW hk hP hH) (mo_185t hI hk hP hH h)
    · exact oD.e hv (by decide) (fun d M G r => wo_229e2 _ (xo_76c hI hk hN) r d) (mo_185c hI hk hN h)
  · have hs := ixo_f (by omega) h
    exact oD.e hv (by decide) (fun d M G r => wo_229e1 _ (xo_76a hs h100) r d) (mo_185f s h)
theorem st_50 {n : Nat} {P : am_S} (hv : xInv n P) (s : Int32) : oJ n 78 231 187 [.int s] P := by
  have hI := hv.hI
  have hW := hv.hW
  have h20 := hI.2.1
  have h100 := hI.1
  by_cases h : ixo (sn P 4) s
  · obtain ⟨k, rfl, hk⟩ := ixo_t (by omega) h
    exact oJ.t hv.up (xo_78t hk h20) (mo_187t (by omega) h)
  · have hs := ixo_f (by omega) h
    exact oJ.e hv (by decide) (fun d M G r => wo_231e1 _ (xo_78f hs h20) r d) (mo_187f s h)
theorem st_29 {n : Nat} {P : am_S} (hv : xInv n P) (s t : Int32) : oI n 57 211 150 [.int s, .int t] P := by
  have hI := hv.hI
  have hW := hv.hW
  have h20 := hI.2.1
  have h100 := hI.1
  by_cases h : ixo (sn P 5) s
  · obtain ⟨o, rfl, ho⟩ := ixo_t (by omega) h
    obtain ⟨g1, g2, g3, g4, g5, g6⟩ := hI.at ho
    have hp := hI.2.2.1 o ho
    by_cases hk : ixo (sN P 2 (sN P 3 o)) t
    · obtain ⟨k, rfl, hj⟩ := ixo_t (by omega) hk
      exact oI.t hv.up (xo_57t ho h100 hp g4 hj) (mo_150t hI ho h hj hk)
    · have hk2 := ixo_f (by omega) hk
      exact oI.e hv (by decide) (fun d M G r => wo_211e1 _ _ (xo_57b ho h100 hp hk2) r d) (mo_150b hI ho h hk)
  · have hs := ixo_f (by omega) h
    exact oI.e hv (by decide) (fun d M G r => wo_211e1 _ _ (xo_57a t hs h100) r d) (mo_150a s t h)
theorem st_33 {n : Nat} {P : am_S} (hv : xInv n P) (s t : Int32) : oJ n 61 214 158 [.int s, .int t] P := by
  have hI := hv.hI
  have hW := hv.hW
  have h20 := hI.2.1
  have h100 := hI.1
  by_cases h : ixo (sn P 5) s
  · obtain ⟨o, rfl, ho⟩ := ixo_t (by omega) h
    obtain ⟨g1, g2, g3, g4, g5, g6⟩ := hI.at ho
    have hp := hI.2.2.1 o ho
    by_cases hk : ixo (sN P 2 (sN P 3 o)) t
    · obtain ⟨k, rfl, hj⟩ := ixo_t (by omega) hk
      exact oJ.t hv.up (xo_61t hI hW ho hj) (mo_158t hI ho h hj hk)
    · have hk2 := ixo_f (by omega) hk
      exact oJ.e hv (by decide) (fun d M G r => wo_214e1 _ _ (xo_61b hI hW ho hk2) r d) (mo_158b hI ho h hk)
  · have hs := ixo_f (by omega) h
    exact oJ.e hv (by decide) (fun d M G r => wo_214e1 _ _ (xo_61a t hs h100) r d) (mo_158a s t h)
theorem st_35 {n : Nat} {P : am_S} (hv : xInv n P) (s t : Int32) : oJ n 63 216 162 [.int s, .int t] P := by
  have hI := hv.hI
  have hW := hv.hW
  have h20 := hI.2.1
  have h100 := hI.1
  by_cases h : ixo (sn P 5) s
  · obtain ⟨o, rfl, ho⟩ := ixo_t (by omega) h
    obtain ⟨g1, g2, g3, g4, g5, g6⟩ := hI.at ho
    have hp := hI.2.2.1 o ho
    by_cases hk : ixo (sN P 2 (sN P 3 o)) t
    · obtain ⟨k, rfl, hj⟩ := ixo_t (by omega) hk
      exact oJ.t hv.up (xo_63t hI hW ho hj) (mo_162t hI ho h hj hk)
    · have hk2 := ixo_f (by omega) hk
      exact oJ.e hv (by decide) (fun d M G r => wo_216e1 _ _ (xo_63b hI hW ho hk2) r d) (mo_162b hI ho h hk)
  · have hs := ixo_f (by omega) h
    exact oJ.e hv (by decide) (fun d M G r => wo_216e1 _ _ (xo_63a t hs h100) r d) (mo_162a s t h)
theorem st_36 {n : Nat} {P : am_S} (hv : xInv n P) (s t : Int32) : oZ n 64 217 163 [.int s, .int t] P := by
  have hI := hv.hI
  have hW := hv.hW
  have h20 := hI.2.1
  have h100 := hI.1
  by_cases h : ixo (sn P 5) s
  · obtain ⟨o, rfl, ho⟩ := ixo_t (by omega) h
    obtain ⟨g1, g2, g3, g4, g5, g6⟩ := hI.at ho
    have hp := hI.2.2.1 o ho
    by_cases hk : ixo (sN P 2 (sN P 3 o)) t
    · obtain ⟨k, rfl, hj⟩ := ixo_t (by omega) hk
      have hx := xo_64t hI hW ho hj
      rcases mWk_01 P o k with hw | hw
      · rw [hw] at hx
        exact ⟨P, hv.up, Or.inl ⟨hx, mo_163t0 hI ho h hj hk hw⟩⟩
      · rw [hw] at hx
        exact ⟨P, hv.up, Or.inr (Or.inl ⟨hx, mo_163t1 hI ho h hj hk hw⟩)⟩
    · have hk2 := ixo_f (by omega) hk
      exact oZ.e hv (by decide) (fun d M G r => wo_217e1 _ _ (xo_64b hI hW ho hk2) r d) (mo_163b hI ho h hk)
  · have hs := ixo_f (by omega) h
    exact oZ.e hv (by decide) (fun d M G r => wo_217e1 _ _ (xo_64a t hs h100) r d) (mo_163a s t h)
theorem st_37 {n : Nat} {P : am_S} (hv : xInv n P) (s t : Int32) : oI n 65 218 164 [.int s, .int t] P := by
  have hI := hv.hI
  have hW := hv.hW
  have h20 := hI.2.1
  have h100 := hI.1
  by_cases h : ixo (sn P 4) s
  · obtain ⟨o, rfl, ho⟩ := ixo_t (by omega) h
    obtain ⟨g3, g4, g5, g6⟩ := hI.2.2.2 o ho
    by_cases hk : ixo (sN P 2 o) t
    · obtain ⟨k, rfl, hj⟩ := ixo_t (by omega) hk
      exact oI.t hv.up (xo_65t hI hW ho hj) (mo_164t hI (by omega) hj h hk)
    · have hk2 := ixo_f (by omega) hk
      exact oI.e hv (by decide) (fun d M G r => wo_218e1 _ _ (xo_65b hI hW ho hk2) r d) (mo_164b t (by omega) h hk)
  · have hs := ixo_f (by omega) h
    exact oI.e hv (by decide) (fun d M G r => wo_218e1 _ _ (xo_65a t hs h20) r d) (mo_164a s t h)
theorem st_15 {n : Nat} {P : am_S} (hv : xInv n P) (a : Int32) : oI n 43 199 128 [.int a] P := by
  by_cases h : 0 ≤ a.toInt64 ∧ a.toInt64 ≤ 30000
  · obtain ⟨hA, hB, hC, hD, hE, hF, hG, hH, hM⟩ := hv
    refine oI.t (P' := ui P 3 a) ⟨hA, hB, ?_, hD, hE, hF.up, hG, hH, hM⟩ (xo_43t a h) (mo_128t a h)
    exact ⟨hC.1, hC.2.1, ⟨le32l h.1, le32r h.2⟩, hC.2.2.2⟩
  · exact oI.e hv (by decide) (fun d M G r => wo_199e1 _ (xo_43f a h) r d) (mo_128f a h)
theorem st_44 {n : Nat} {P : am_S} (hv : xInv n P) (a : Int32) : oI n 72 225 177 [.int a] P := by
  by_cases h : 1 ≤ a.toInt64 ∧ a.toInt64 ≤ 50
  · obtain ⟨hA, hB, hC, hD, hE, hF, hG, hH, hM⟩ := hv
    refine oI.t (P' := ui P 5 a) ⟨hA, hB, ?_, hD, hE, hF.up, hG, hH, hM⟩ (xo_72t a h) (mo_177t a h)
    exact ⟨hC.1, hC.2.1, hC.2.2.1, le32l h.1, le32r h.2⟩
  · exact oI.e hv (by decide) (fun d M G r => wo_225e1 _ (xo_72f a h) r d) (mo_177f a h)
theorem st_32 {n : Nat} {P : am_S} (hv : xInv n P) (a : Int64) : oJ n 60 213 153 [.long a] P := by
  by_cases h : 0 ≤ a ∧ a ≤ 10000000000000
  · obtain ⟨hA, hB, hC, hD, hE, hF, hG, hH, hM⟩ := hv
    refine oJ.t (P' := uj P 1 a) ⟨hA, hB, hC, ?_, hE, hF.up, hG, hH, hM⟩ (xo_60t a h) (mo_153t a h)
    exact ⟨hD.1, ⟨le64 h.1, le64 h.2⟩, hD.2.2⟩
  · exact oJ.e hv (by decide) (fun d M G r => wo_213e1 _ (xo_60f a h) r d) (mo_153f a h)
theorem st_40 {n : Nat} {P : am_S} (hv : xInv n P) (a : Int64) : oJ n 68 221 172 [.long a] P := by
  by_cases h : 0 ≤ a ∧ a ≤ 1000000000
  · obtain ⟨hA, hB, hC, hD, hE, hF, hG, hH, hM⟩ := hv
    refine oJ.t (P' := uj P 2 a) ⟨hA, hB, hC, ?_, hE, hF.up, hG, hH, hM⟩ (xo_68t a h) (mo_172t a h)
    exact ⟨hD.1, hD.2.1, le64 h.1, le64 h.2⟩
  · exact oJ.e hv (by decide) (fun d M G r => wo_221e1 _ (xo_68f a h) r d) (mo_172f a h)
theorem st_17 {n : Nat} {P : am_S} (hv : xInv n P) (a : Int32) : oI n 45 200 130 [.int a] P := by
  by_cases h : 1 ≤ a.toInt64 ∧ a.toInt64 ≤ 10000
  · by_cases hr : sn P 6 = 0
    · obtain ⟨hA, hB, hC, hD, hE, hF, hG, hH, hM⟩ := hv
      exact oI.t (P' := ui P 2 a) ⟨hA, hB, ⟨hC.1, ⟨le32l h.1, le32r h.2⟩, hC.2.2⟩, hD, hE, hF.up, hG, iH.no hr, hM⟩ (xo_45t a h hr) (mo_130t a h hr)
    · exact oI.e hv (by decide) (fun d M G r => wo_200e2 _ (xo_45c a h hr) r d) (mo_130c a h hr hv.2.2.2.2.2.1.1)
  · exact oI.e hv (by decide) (fun d M G r => wo_200e1 _ (xo_45a a h) r d) (mo_130a a h)
theorem st_19 {n : Nat} {P : am_S} (hv : xInv n P) (s : Int32) : oJ n 47 202 136 [.int s] P := by
  by_cases h : 0 ≤ s.toInt64 ∧ s.toInt64 ≤ 9
  · obtain ⟨k, rfl, hk⟩ := ixo_t (by omega) (ixo10.mp h)
    have h10 := hv.1.1
    by_cases hi : mIsC P (Int32.ofNat k)
    · exact oJ.t hv.up (xo_47t hk hi) (mo_136t hk h hi h10)
    · exact oJ.e hv (by decide) (fun d M G r => wo_202e2 _ (xo_47c hk hi) r d) (mo_136c _ h hi h10)
  · have hs := ixo_f (by omega) (fun z => h (ixo10.mpr z))
    exact oJ.e hv (by decide) (fun d M G r => wo_202e1 _ (xo_47a hs) r d) (mo_136a s h)
theorem st_22 {n : Nat} {P : am_S} (hv : xInv n P) : oI n 50 205 140 [] P := by
  have hI := hv.hI
  by_cases hr : sn P 6 = 0
  · exact oI.e hv (by decide) (fun d M G r => wo_205e1 (xo_50f hr) r d) (mo_140f hr)
  · have hi := hv.2.2.2.2.2.2.2.1 hr
    have e : ru P = Int32.ofNat (sn P 4 - 1) := if_neg hr
    have hm := mo_140t hr hI.2.1 hI.1
    rw [e] at hm
    have hp : sn P 4 - 1 < sn P 4 := by omega
    obtain ⟨hA, hB, hC, hD, hE, hF, hG, hH, hM⟩ := hv
    exact oI.t (P' := un P 6 0) ⟨hA, hB, hC, hD, hE, hF.up, hG, iH.no rfl, hM⟩ (xo_50t hr hi.1 (fun M G r => (lo_cnt (xm_lo r) hI hp).symm)) hm
theorem st_24 {n : Nat} {P : am_S} (hv : xInv n P) (a : Int32) (hn9 : n ≤ 600) : oJ n 52 207 142 [.int a] P := by
  by_cases h : -1000 ≤ a.toInt64 ∧ a.toInt64 ≤ 1000
  · by_cases hr : sn P 6 = 0
    · exact oJ.e hv (by decide) (fun d M G r => wo_207e2 _ (xo_52c a h hr) r d) (mo_142c a h hr)
    · have hi := hv.2.2.2.2.2.2.2.1 hr
      have h20 := hv.2.2.2.2.2.1.1
      obtain ⟨hA, hB, hC, hD, hE, hF, hG, hH, hM⟩ := hv
      have a1 : -1000 ≤ a.toInt := le32l h.1
      have a2 : a.toInt ≤ 1000 := le32r h.2
      refine oJ.t (P' := uJ P 5 (va_up (sJ P 5) (sn P 4 - 1) (sJ P 5 (sn P 4 - 1) + a.toInt64))) ⟨hA, hB, hC, hD, hE, ?_, hG, hH, hM⟩ (xo_52t a h hr hi.1 h20) (mo_142t a h hr h20)
      obtain ⟨f1, f2, f3, f4, f5⟩ := hF
      refine ⟨f1, f2, fun p hp => ⟨(f3 p hp).1, (f3 p hp).2.1, (f3 p hp).2.2.1, ?_, (f3 p hp).2.2.2.2⟩, fun p hp => ⟨?_, (f4 p hp).2⟩, f5⟩
      · show -(1000 * ((n + 1 : Nat) : Int)) ≤ (va_up (sJ P 5) (sn P 4 - 1) (sJ P 5 (sn P 4 - 1) + a.toInt64) p).toInt ∧ (va_up (sJ P 5) (sn P 4 - 1) (sJ P 5 (sn P 4 - 1) + a.toInt64) p).toInt ≤ 1000 * ((n + 1 : Nat) : Int)
        have hp : p < sn P 4 := hp
        by_cases hz : p = sn P 4 - 1
        · rw [hz, up_at]
          have hq := (f3 (sn P 4 - 1) (by omega)).2.2.2.1
          have e : (sJ P 5 (sn P 4 - 1) + a.toInt64).toInt = (sJ P 5 (sn P 4 - 1)).toInt + a.toInt := by
            rw [Int64.toInt_add, Int32.toInt_toInt64]
            apply Int.bmod_eq_of_le_mul_two <;> omega
          rw [e]
          omega
        · rw [up_ne _ _ hz]
          have hq := (f3 p hp).2.2.2.1
          omega
      · show va_up (sJ P 5) (sn P 4 - 1) (sJ P 5 (sn P 4 - 1) + a.toInt64) p = 0
        have hp : sn P 4 ≤ p := hp
        rw [up_ne _ _ (by omega)]
        exact (f4 p hp).1
  · exact oJ.e hv (by decide) (fun d M G r => wo_207e1 _ (xo_52a a h) r d) (mo_142a a h)
theorem st_49 {n : Nat} {P : am_S} (hv : xInv n P) {lo : Nat → Nat} (hlo : xLo P lo) (s : Int32) : oJ n 77 230 186 [.int s] P := by
  have hI := hv.hI
  have hW := hv.hW
  have h20 := hI.2.1
  have h100 := hI.1
  have hw := hv.2.2.1.2.2.2
  by_cases h : 1 ≤ s.toInt64 ∧ s.toInt64 ≤ (Int32.ofNat (sn P 4) - 1).toInt64
  · have s1 : 1 ≤ s.toInt := le32l h.1
    have hx : ixo (sn P 4) s := ⟨by rw [Int64.le_iff_toInt_le, Int32.toInt_toInt64]; show (0 : Int) ≤ _; omega, h.2⟩
    obtain ⟨q, rfl, hq⟩ := ixo_t (by omega) hx
    have hq1 : 1 ≤ q := by
      rw [Int32.toInt_ofNat_of_lt (by omega)] at s1
      omega
    have hle := mcnt_le P (Int32.ofNat q) (sn P 5)
    by_cases hc : mcnt P (Int32.ofNat q) (sn P 5) = 0
    · exact oJ.e hv (by decide) (fun d M G r => wo_230e2 _ (xo_77c hI hq1 hq hc) r d) (mo_186c hI h hc)
    · rcases line_cases hlo hI (show q - 1 < sn P 4 by omega) with ⟨a, m, hP, hH⟩ | hN
      · have hcn := lo_cnt hlo hI hq
        have hC := lo_pa hlo hI hq (by omega)
        obtain ⟨l1, l2, l3, l4⟩ := lo_un hlo hI hP
        have hm1 := hP.1
        have hm2 := hP.2.1
        have haq : sN P 3 (a + m - 1) = q - 1 := hlo.2.2.2 (q - 1) (by omega) _ (by omega) (by omega)
        have hFo : mFo P a (a + m - 1) := ⟨by omega, by rw [haq]; exact hP.2.2.2.2.1, fun k hk => by rw [haq]; exact hP.2.2.2.2.2 k hk⟩
        have hG := hv.2.2.2.2.2.2.1
        have t1 := hG.2 a (a + m - 1) (by omega) (by omega)
        have t2 : ¬ (sI P 3 a).toInt = (sI P 3 (a + m - 1)).toInt := fun z => hH.2 (Int32.toInt_inj.mp z)
        have t3 := (hG.1 a (by omega)).2.1
        have t4 := (hG.1 (a + m - 1) (by omega)).2.1
        have t5 := hv.2.2.1.1
        have hb : 0 < (sI P 3 (a + m - 1) - sI P 3 a).toInt64 := by
          rw [Int64.lt_iff_toInt_lt, Int32.toInt_toInt64, Int32.toInt_sub]
          rw [show ((sI P 3 (a + m - 1)).toInt - (sI P 3 a).toInt).bmod (2 ^ 32) = (sI P 3 (a + m - 1)).toInt - (sI P 3 a).toInt from Int.bmod_eq_of_le_mul_two (by omega) (by omega)]
          show (0 : Int) < _
          omega
        have hx9 := xo_77t hI hW hw.1 hw.2 hq1 hP hH hC hb
        have hm9 := mo_186t hI hq1 hP hH hC (pos32 hw.1).2 hFo h
        obtain ⟨hA, hB, hC, hD, hE, hF, hG, hH, hM⟩ := hv
        refine oJ.t (P' := mJP P q (mJm P q a m (lo q))) ⟨hA, hB, hC, hD, hE, ?_, hG, hH, hM⟩ hx9 hm9
        obtain ⟨f1, f2, f3, f4, f5⟩ := hF.up
        refine ⟨f1, f2, f3, fun p hp => ⟨(f4 p hp).1, ?_, ?_⟩, fun p => ?_⟩
        · have hp : sn P 4 ≤ p := hp
          show va_up (sJ P 6) q _ p = 0
          rw [up_ne _ _ (by omega)]
          exact (f4 p hp).2.1
        · have hp : sn P 4 ≤ p := hp
          show va_up (sN P 4) q 1 p = 0
          rw [up_ne _ _ (by omega)]
          exact (f4 p hp).2.2
        · show va_up (sN P 4) q 1 p ≤ 1
          by_cases hz : p = q
          · rw [hz, up_at]; exact Nat.le_refl _
          · rw [up_ne _ _ hz]; exact f5 p
      · exact oJ.e hv (by decide) (fun d M G r => wo_230e2 _ (xo_77d hI hq1 hq hc hN) r d) (mo_186d hI hq1 (by omega) h (by rw [show (0 : Int32) = Int32.ofNat 0 from rfl, ix_le (by omega) (by omega)]; omega) hN)
  · by_cases hx : ixo (sn P 4) s
    · obtain ⟨q, rfl, hq⟩ := ixo_t (by omega) hx
      have hq0 : q = 0 := by
        apply Classical.byContradiction
        intro z
        apply h
        refine ⟨?_, hx.2⟩
        rw [Int64.le_iff_toInt_le, Int32.toInt_toInt64, Int32.toInt_ofNat_of_lt (by omega)]
        show (1 : Int) ≤ _
        omega
      subst hq0
      exact oJ.e hv (by decide) (fun d M G r => wo_230e1 _ (xo_77b hq h20) r d) (mo_186a _ h)
    · have hs := ixo_f (by omega) hx
      exact oJ.e hv (by decide) (fun d M G r => wo_230e1 _ (xo_77a hs h20) r d) (mo_186a s h)
