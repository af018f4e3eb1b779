/-! what holds of the state at every call -/
theorem le64 {a b : Int64} (h : a ≤ b) : a.toInt ≤ b.toInt := Int64.le_iff_toInt_le.mp h
theorem le32l {lo : Int64} {a : Int32} (h : lo ≤ a.toInt64) : lo.toInt ≤ a.toInt := by rw [← Int32.toInt_toInt64]; exact le64 h
theorem le32r {hi : Int64} {a : Int32} (h : a.toInt64 ≤ hi) : a.toInt ≤ hi.toInt := by rw [← Int32.toInt_toInt64]; exact le64 h
def iA (P : am_S) : Prop := sn P 1 ≤ 10 ∧ (∀ k, k < sn P 1 → sN P 0 k < 10) ∧ (∀ j k, j < k → k < sn P 1 → sN P 0 j ≠ sN P 0 k) ∧ sn P 2 < 10 ∧ sn P 3 ≤ 6
def iB (P : am_S) : Prop := ∀ k, k < sn P 3 → 1000 ≤ (sJ P 2 k).toInt ∧ (sJ P 2 k).toInt ≤ 1000000000000
def iC (P : am_S) : Prop := (0 ≤ (si P 1).toInt ∧ (si P 1).toInt ≤ 1000000) ∧ (1 ≤ (si P 2).toInt ∧ (si P 2).toInt ≤ 10000) ∧ (0 ≤ (si P 3).toInt ∧ (si P 3).toInt ≤ 30000) ∧ (1 ≤ (si P 5).toInt ∧ (si P 5).toInt ≤ 50)
def iD (P : am_S) : Prop := (-(10005000 * (si P 1).toInt) ≤ (sj P 0).toInt ∧ (sj P 0).toInt ≤ 10000000000000 + 10005000 * (si P 1).toInt) ∧ (0 ≤ (sj P 1).toInt ∧ (sj P 1).toInt ≤ 10000000000000) ∧ (0 ≤ (sj P 2).toInt ∧ (sj P 2).toInt ≤ 1000000000)
def iE (P : am_S) : Prop := ∀ s, s < 10 → -200000000000000 ≤ (sJ P 1 s).toInt ∧ (sJ P 1 s).toInt ≤ 200000000000000
def iF (n : Nat) (P : am_S) : Prop := sn P 4 ≤ 20 ∧ sn P 5 ≤ 100 ∧ (∀ p, p < sn P 4 → (1 ≤ sN P 2 p ∧ sN P 2 p ≤ 6 ∧ sN P 1 p < 10) ∧ (1 ≤ (sI P 2 p).toInt ∧ (sI P 2 p).toInt ≤ 10000) ∧ (-30000000000000 ≤ (sJ P 4 p).toInt ∧ (sJ P 4 p).toInt ≤ 30000000000000) ∧ (-(1000 * (n : Int)) ≤ (sJ P 5 p).toInt ∧ (sJ P 5 p).toInt ≤ 1000 * (n : Int)) ∧ ∀ k, k < sN P 2 p → 1000 ≤ (sJ P 3 (6 * p + k)).toInt ∧ (sJ P 3 (6 * p + k)).toInt ≤ 1000000000000) ∧ (∀ p, sn P 4 ≤ p → sJ P 5 p = 0 ∧ sJ P 6 p = 0 ∧ sN P 4 p = 0) ∧ ∀ p, sN P 4 p ≤ 1
def iG (P : am_S) : Prop := (∀ o, o < sn P 5 → sN P 3 o < sn P 4 ∧ (0 ≤ (sI P 3 o).toInt ∧ (sI P 3 o).toInt ≤ (si P 1).toInt) ∧ (-100000000000000 ≤ (sJ P 7 o).toInt ∧ (sJ P 7 o).toInt ≤ 100000000000000) ∧ ∀ k, k < sN P 2 (sN P 3 o) → 0 ≤ (sI P 4 (6 * o + k)).toInt ∧ (sI P 4 (6 * o + k)).toInt ≤ 999) ∧ ∀ a b, a ≤ b → b < sn P 5 → (sI P 3 a).toInt ≤ (sI P 3 b).toInt
def iH (P : am_S) : Prop := ¬ sn P 6 = 0 → 1 ≤ sn P 4 ∧ sN P 1 (sn P 4 - 1) = sn P 2 ∧ sN P 2 (sn P 4 - 1) = sn P 3 ∧ sI P 2 (sn P 4 - 1) = si P 2 ∧ ∀ k, k < sn P 3 → sJ P 3 (6 * (sn P 4 - 1) + k) = sJ P 2 k
def xInv (n : Nat) (P : am_S) : Prop := iA P ∧ iB P ∧ iC P ∧ iD P ∧ iE P ∧ iF n P ∧ iG P ∧ iH P ∧ mHB P
theorem pos64 {x : Int64} (h1 : 1000 ≤ x.toInt) (h2 : x.toInt ≤ 1000000000000) : 0 < x ∧ 0 < 2 * x ∧ ¬ 2 * x = 0 ∧ ¬ x = 0 := by
  have e0 : (0 : Int64).toInt = 0 := rfl
  have e2 : (2 * x).toInt = 2 * x.toInt := by
    rw [Int64.toInt_mul, show (2 : Int64).toInt = 2 from rfl]
    apply Int.bmod_eq_of_le_mul_two <;> omega
  refine ⟨?_, ?_, fun z => ?_, fun z => ?_⟩
  · rw [Int64.lt_iff_toInt_lt, e0]; omega
  · rw [Int64.lt_iff_toInt_lt, e0, e2]; omega
  · have := congrArg Int64.toInt z
    rw [e2, e0] at this
    omega
  · have := congrArg Int64.toInt z
    rw [e0] at this
    omega
theorem pos32 {x : Int32} (h1 : 1 ≤ x.toInt) : 0 < x.toInt64 ∧ ¬ x.toInt64 = 0 := by
  have e0 : (0 : Int64).toInt = 0 := rfl
  refine ⟨?_, fun z => ?_⟩
  · rw [Int64.lt_iff_toInt_lt, e0, Int32.toInt_toInt64]; omega
  · have := congrArg Int64.toInt z
    rw [e0, Int32.toInt_toInt64] at this
    omega
theorem xInv.hI {n : Nat} {P : am_S} (h : xInv n P) : mInv P := by
  obtain ⟨hA, hB, hC, hD, hE, ⟨f1, f2, f3, f4, f5⟩, hG, hH, hM⟩ := h
  exact ⟨f2, f1, fun o ho => (hG.1 o ho).1, fun p hp => ⟨(f3 p hp).1.1, (f3 p hp).1.2.1, (f3 p hp).1.2.2, fun k hk => (pos64 ((f3 p hp).2.2.2.2 k hk).1 ((f3 p hp).2.2.2.2 k hk).2).2.2.1⟩⟩
theorem xInv.hW {n : Nat} {P : am_S} (h : xInv n P) : mPos P := by
  obtain ⟨hA, hB, hC, hD, hE, ⟨f1, f2, f3, f4, f5⟩, hG, hH, hM⟩ := h
  exact fun p hp => ⟨(pos32 (f3 p hp).2.1.1).1, fun k hk => ⟨(pos64 ((f3 p hp).2.2.2.2 k hk).1 ((f3 p hp).2.2.2.2 k hk).2).1, (pos64 ((f3 p hp).2.2.2.2 k hk).1 ((f3 p hp).2.2.2.2 k hk).2).2.1⟩⟩
theorem iC.nz {P : am_S} (h : iC P) : ¬ 2 * si P 3 + 1 = 0 := by
  obtain ⟨-, -, ⟨h1, h2⟩, -⟩ := h
  intro z
  have := congrArg Int32.toInt z
  rw [Int32.toInt_add, Int32.toInt_mul, show (2 : Int32).toInt = 2 from rfl, show (1 : Int32).toInt = 1 from rfl, show (0 : Int32).toInt = 0 from rfl] at this
  rw [show (2 * (si P 3).toInt).bmod (2 ^ 32) = 2 * (si P 3).toInt from Int.bmod_eq_of_le_mul_two (by omega) (by omega)] at this
  rw [show (2 * (si P 3).toInt + 1).bmod (2 ^ 32) = 2 * (si P 3).toInt + 1 from Int.bmod_eq_of_le_mul_two (by omega) (by omega)] at this
  omega
theorem iB.L {P : am_S} (h : iB P) : ∀ k, k < sn P 3 → 0 < sJ P 2 k ∧ 0 < 2 * sJ P 2 k ∧ (sJ P 2 k).toInt ≤ 1000000000000 := fun k hk => ⟨(pos64 (h k hk).1 (h k hk).2).1, (pos64 (h k hk).1 (h k hk).2).2.1, (h k hk).2⟩
theorem iF.up {n : Nat} {P : am_S} (h : iF n P) : iF (n + 1) P := by
  obtain ⟨f1, f2, f3, f4, f5⟩ := h
  exact ⟨f1, f2, fun p hp => ⟨(f3 p hp).1, (f3 p hp).2.1, (f3 p hp).2.2.1, ⟨by have := (f3 p hp).2.2.2.1.1; omega, by have := (f3 p hp).2.2.2.1.2; omega⟩, (f3 p hp).2.2.2.2⟩, f4, f5⟩
theorem xInv.up {n : Nat} {P : am_S} (h : xInv n P) : xInv (n + 1) P := by
  obtain ⟨hA, hB, hC, hD, hE, hF, hG, hH, hM⟩ := h
  exact ⟨hA, hB, hC, hD, hE, hF.up, hG, hH, hM⟩
/-! floors -/
theorem mfl_fl (a b : Int64) (hb : 0 < b.toInt) (ha : -4000000000000000000 ≤ a.toInt) : (mfl a b).toInt * b.toInt ≤ a.toInt ∧ a.toInt < (mfl a b).toInt * b.toInt + b.toInt ∧ (mfl a b).toInt.natAbs ≤ a.toInt.natAbs + 1 := by
  have h0 : (0 : Int64).toInt = 0 := rfl
  have hb2 := Int64.toInt_lt b
  have ha2 := Int64.toInt_lt a
  obtain ⟨d1, d2, d3⟩ := dm_int a b (by rw [Int64.lt_iff_toInt_lt, h0]; exact hb)
  have e1 : a.toInt.tdiv b.toInt * b.toInt + a.toInt.tmod b.toInt = a.toInt := by rw [Int.mul_comm]; exact Int.mul_tdiv_add_tmod _ _
  have e2 : (a.toInt.tmod b.toInt).natAbs < b.toInt.natAbs := by rw [Int.natAbs_tmod]; exact Nat.mod_lt _ (by omega)
  have e5 : (a.toInt.tdiv b.toInt).natAbs ≤ a.toInt.natAbs := by rw [Int.natAbs_tdiv]; exact Nat.div_le_self _ _
  unfold mfl
  by_cases h : a - a / b * b < 0
  · rw [if_pos h]
    rw [Int64.lt_iff_toInt_lt, d3, h0] at h
    have e6 : (a / b - 1).toInt = a.toInt.tdiv b.toInt - 1 := by
      rw [Int64.toInt_sub, d1, show (1 : Int64).toInt = 1 from rfl]
      apply Int.bmod_eq_of_le_mul_two <;> omega
    rw [e6, Int.sub_mul, Int.one_mul]
    omega
  · rw [if_neg h]
    rw [Int64.lt_iff_toInt_lt, d3, h0] at h
    rw [d1]
    omega
theorem mti_nr (t n : Int64) (h1 : 1000 ≤ n.toInt) (h2 : n.toInt ≤ 1000000000000) (t1 : -1000000000000000 ≤ t.toInt) (t2 : t.toInt ≤ 1000000000000000) : -n.toInt ≤ (mti t n * n).toInt - t.toInt ∧ (mti t n * n).toInt - t.toInt ≤ n.toInt := by
  have e2 : (2 * n).toInt = 2 * n.toInt := by
    rw [Int64.toInt_mul, show (2 : Int64).toInt = 2 from rfl]
    apply Int.bmod_eq_of_le_mul_two <;> omega
  have e3 : (2 * t + n).toInt = 2 * t.toInt + n.toInt := by
    rw [Int64.toInt_add, Int64.toInt_mul, show (2 : Int64).toInt = 2 from rfl]
    rw [show (2 * t.toInt).bmod (2 ^ 64) = 2 * t.toInt from Int.bmod_eq_of_le_mul_two (by omega) (by omega)]
    apply Int.bmod_eq_of_le_mul_two <;> omega
  obtain ⟨g1, g2, -⟩ := mfl_fl (2 * t + n) (2 * n) (by omega) (by omega)
  rw [e2, e3] at g1 g2
  have e4 : (mfl (2 * t + n) (2 * n)).toInt * (2 * n.toInt) = 2 * ((mfl (2 * t + n) (2 * n)).toInt * n.toInt) := by rw [← Int.mul_assoc, Int.mul_comm _ 2, Int.mul_assoc]
  rw [e4] at g1 g2
  have e5 : (mti t n * n).toInt = (mfl (2 * t + n) (2 * n)).toInt * n.toInt := by
    unfold mti
    rw [Int64.toInt_mul]
    apply Int.bmod_eq_of_le_mul_two <;> omega
  rw [e5]
  omega
/-- estimates -/
theorem mes_b {L : Nat → Int64} {f : Nat → Int32} : ∀ k : Nat, k ≤ 10 → (∀ j, j ≤ k → (1000 ≤ (L j).toInt ∧ (L j).toInt ≤ 1000000000000) ∧ 0 ≤ (f j).toInt ∧ (f j).toInt ≤ 999) → -(1000000000000 * (k : Int)) ≤ (mes L f k).toInt ∧ (mes L f k).toInt ≤ 1000000000000 * ((k : Int) + 1) := by
  intro k
  induction k with
  | zero =>
    intro _ h
    obtain ⟨⟨h1, h2⟩, h3, h4⟩ := h 0 (Nat.le_refl _)
    obtain ⟨-, g1, g2⟩ := fine_ok (f 0) (L 0) h3 h4 (pos64 h1 h2).1 h2
    rw [mes]
    omega
  | succ k ih =>
    intro hk h
    obtain ⟨i1, i2⟩ := ih (by omega) (fun j hj => h j (by omega))
    obtain ⟨⟨h1, h2⟩, h3, h4⟩ := h (k + 1) (Nat.le_refl _)
    obtain ⟨-, g1, g2⟩ := fine_ok (f (k + 1)) (L (k + 1)) h3 h4 (pos64 h1 h2).1 h2
    rw [mes]
    generalize (f (k + 1)).toInt64 * L (k + 1) / 1000 = F at *
    generalize mes L f k = E at *
    have s1 : (E - F).toInt = E.toInt - F.toInt := by
      rw [Int64.toInt_sub]
      apply Int.bmod_eq_of_le_mul_two <;> omega
    obtain ⟨n1, n2⟩ := mti_nr (E - F) (L (k + 1)) h1 h2 (by omega) (by omega)
    have s2 : (F + mti (E - F) (L (k + 1)) * L (k + 1)).toInt = F.toInt + (mti (E - F) (L (k + 1)) * L (k + 1)).toInt := by
      rw [Int64.toInt_add]
      apply Int.bmod_eq_of_le_mul_two <;> omega
    rw [s2]
    omega
theorem xInv.E {n : Nat} {P : am_S} (h : xInv n P) {o k : Nat} (ho : o < sn P 5) (hk : k < sN P 2 (sN P 3 o)) : -10000000000000 ≤ (mE P o k).toInt ∧ (mE P o k).toInt ≤ 10000000000000 := by
  obtain ⟨hA, hB, hC, hD, hE, ⟨f1, f2, f3, f4, f5⟩, hG, hH, hM⟩ := h
  obtain ⟨g1, g2, g3, g4⟩ := hG.1 o ho
  obtain ⟨⟨p1, p2, p3⟩, p4, p5, p6, p7⟩ := f3 _ g1
  have := mes_b (L := mW P o) (f := fun k => sI P 4 (6 * o + k)) k (by omega) (fun j hj => ⟨p7 j (by omega), g4 j (by omega)⟩)
  unfold mE
  omega
/-- plain ranges -/
theorem xInv.Pl {n : Nat} {P : am_S} (h : xInv n P) {o k : Nat} (ho : o < sn P 5) (hk : k < sN P 2 (sN P 3 o)) : -20000000000000 ≤ (mPl P o k).toInt ∧ (mPl P o k).toInt ≤ 20000000000000 := by
  obtain ⟨e1, e2⟩ := h.E ho hk
  obtain ⟨hA, hB, hC, ⟨-, ⟨d1, d2⟩, -⟩, hE, ⟨f1, f2, f3, f4, f5⟩, hG, hH, hM⟩ := h
  obtain ⟨g1, g2, g3, g4⟩ := hG.1 o ho
  obtain ⟨⟨p1, p2, p3⟩, p4, p5, p6, p7⟩ := f3 _ g1
  obtain ⟨w1, w2⟩ := p7 0 (by omega)
  have w1 : 1000 ≤ (mW P o 0).toInt := w1
  have w2 : (mW P o 0).toInt ≤ 1000000000000 := w2
  obtain ⟨s1, s2⟩ := hE _ p3
  unfold mPl
  generalize mW P o 0 = W at *
  generalize mE P o k = E at *
  generalize sJ P 1 (sN P 1 (sN P 3 o)) = S at *
  generalize sj P 1 = R at *
  have a1 : (E - S).toInt = E.toInt - S.toInt := by
    rw [Int64.toInt_sub]
    apply Int.bmod_eq_of_le_mul_two <;> omega
  have a2 : (R - (E - S)).toInt = R.toInt - (E.toInt - S.toInt) := by
    rw [Int64.toInt_sub, a1]
    apply Int.bmod_eq_of_le_mul_two <;> omega
  obtain ⟨n1, n2⟩ := mti_nr (R - (E - S)) W w1 w2 (by omega) (by omega)
  have a3 : (E - S + mti (R - (E - S)) W * W).toInt = E.toInt - S.toInt + (mti (R - (E - S)) W * W).toInt := by
    rw [Int64.toInt_add, a1]
    apply Int.bmod_eq_of_le_mul_two <;> omega
  rw [a3]
  omega
theorem xInv.In {n : Nat} {P : am_S} (h : xInv n P) {o : Nat} (ho : o < sn P 5) (hf : mFb P o = 0) : (if mIn P o < 0 then -mIn P o else mIn P o) ≤ sj P 2 ↔ (-(sj P 2) ≤ mIn P o ∧ mIn P o ≤ sj P 2) := by
  have ho0 : ¬ o = 0 := fun z => by unfold mFb at hf; rw [if_pos z] at hf; exact absurd hf (by decide)
  have hs : sN P 3 (o - 1) = sN P 3 o := by
    unfold mFb at hf
    rw [if_neg ho0] at hf
    by_cases hz : sN P 3 (o - 1) = sN P 3 o
    · exact hz
    · rw [if_neg hz] at hf
      exact absurd hf (by decide)
  have ho1 : o - 1 < sn P 5 := by omega
  have h9 := h
  obtain ⟨hA, hB, hC, ⟨-, -, ⟨d1, d2⟩⟩, hE, ⟨f1, f2, f3, f4, f5⟩, hG, hH, hM⟩ := h
  obtain ⟨g1, g2, ⟨c1, c2⟩, g4⟩ := hG.1 o ho
  obtain ⟨-, -, ⟨c3, c4⟩, -⟩ := hG.1 (o - 1) ho1
  obtain ⟨⟨p1, p2, p3⟩, ⟨q1, q2⟩, p5, p6, p7⟩ := f3 _ g1
  obtain ⟨x1, x2⟩ := h9.Pl ho (show sN P 2 (sN P 3 o) - 1 < sN P 2 (sN P 3 o) by omega)
  obtain ⟨y1, y2⟩ := h9.Pl ho1 (show sN P 2 (sN P 3 (o - 1)) - 1 < sN P 2 (sN P 3 (o - 1)) by rw [hs]; omega)
  have hW : mW P (o - 1) 0 = mW P o 0 := by unfold mW; rw [hs]
  have e : mIn P o = mPl P o (sN P 2 (sN P 3 o) - 1) - mPl P (o - 1) (sN P 2 (sN P 3 (o - 1)) - 1) - mMv P o := by
    unfold mIn mPr mRo mRk
    rw [hW, hs]
    generalize mPl P o (sN P 2 (sN P 3 o) - 1) = X
    generalize mPl P (o - 1) (sN P 2 (sN P 3 o) - 1) = Y
    generalize sJ P 6 (sN P 3 o) * mW P o 0 = C
    generalize mMv P o = V
    grind
  have m1 : -2000000000000000000 ≤ (mMv P o).toInt ∧ (mMv P o).toInt ≤ 2000000000000000000 := by
    unfold mMv
    generalize sJ P 7 o = A at *
    generalize sJ P 7 (o - 1) = B at *
    generalize sI P 2 (sN P 3 o) = D at *
    have a1 : (A - B).toInt = A.toInt - B.toInt := by
      rw [Int64.toInt_sub]
      apply Int.bmod_eq_of_le_mul_two <;> omega
    have b1 : (A.toInt - B.toInt) * D.toInt ≤ 200000000000000 * D.toInt := Int.mul_le_mul_of_nonneg_right (by omega) (by omega)
    have b2 : -200000000000000 * D.toInt ≤ (A.toInt - B.toInt) * D.toInt := Int.mul_le_mul_of_nonneg_right (by omega) (by omega)
    have a2 : ((A - B) * D.toInt64).toInt = (A.toInt - B.toInt) * D.toInt := by
      rw [Int64.toInt_mul, a1, Int32.toInt_toInt64]
      apply Int.bmod_eq_of_le_mul_two <;> omega
    rw [a2]
    omega
  rw [e]
  generalize mPl P o (sN P 2 (sN P 3 o) - 1) = X at *
  generalize mPl P (o - 1) (sN P 2 (sN P 3 (o - 1)) - 1) = Y at *
  generalize mMv P o = V at *
  have a1 : (X - Y).toInt = X.toInt - Y.toInt := by
    rw [Int64.toInt_sub]
    apply Int.bmod_eq_of_le_mul_two <;> omega
  have a2 : (X - Y - V).toInt = X.toInt - Y.toInt - V.toInt := by
    rw [Int64.toInt_sub, a1]
    apply Int.bmod_eq_of_le_mul_two <;> omega
  generalize X - Y - V = Z at *
  have a3 : (-Z).toInt = -Z.toInt := by
    rw [Int64.toInt_neg]
    apply Int.bmod_eq_of_le_mul_two <;> omega
  have a4 : (-(sj P 2)).toInt = -(sj P 2).toInt := by
    rw [Int64.toInt_neg]
    apply Int.bmod_eq_of_le_mul_two <;> omega
  have e0 : (0 : Int64).toInt = 0 := rfl
  by_cases hz : Z < 0
  · rw [if_pos hz]
    simp only [Int64.le_iff_toInt_le, Int64.lt_iff_toInt_lt, a3, a4, e0] at hz ⊢
    omega
  · rw [if_neg hz]
    simp only [Int64.le_iff_toInt_le, Int64.lt_iff_toInt_lt, a4, e0] at hz ⊢
    omega
/-! motion -/
theorem mfl_half (a : Int32) (h1 : -10000 ≤ a.toInt) (h2 : a.toInt ≤ 10000) : -5000 ≤ (mfl a.toInt64 2).toInt ∧ (mfl a.toInt64 2).toInt ≤ 5000 := by
  have e : a.toInt64.toInt = a.toInt := Int32.toInt_toInt64 a
  obtain ⟨g1, g2, -⟩ := mfl_fl a.toInt64 2 (by decide) (by omega)
  rw [show (2 : Int64).toInt = 2 from rfl] at g1 g2
  omega
theorem mit_b {P : am_S} (hB : mHB P) (r1 : -100000000000000 ≤ (sj P 0).toInt) (r2 : (sj P 0).toInt ≤ 100000000000000) : ∀ k : Nat, k ≤ 1000 → -(10005000 * (k : Int)) ≤ (mit P k).1.toInt - (sj P 0).toInt ∧ (mit P k).1.toInt - (sj P 0).toInt ≤ 10005000 * (k : Int) := by
  intro k
  induction k with
  | zero => intro _; rw [mit]; show _ ≤ (sj P 0).toInt - _ ∧ (sj P 0).toInt - _ ≤ _; omega
  | succ k ih =>
    intro hk
    obtain ⟨i1, i2⟩ := ih (by omega)
    have hv := xvr_n hB (fun j _ => ⟨rfl, rfl⟩ : ∀ j, j < sn P 0 → sI P 0 j = sI P 0 j ∧ sI P 1 j = sI P 1 j) k
    obtain ⟨v1, v2, v3, v4, v5, v6, v7, v8⟩ := hv
    have hac : -10000 ≤ (mac P (mit P k)).toInt ∧ (mac P (mit P k)).toInt ≤ 10000 := by
      unfold mac
      by_cases hz : (mit P k).2.2.1 < sn P 0
      · rw [if_pos hz]; exact ⟨(hB.2.1 _ hz).2.2.1, (hB.2.1 _ hz).2.2.2⟩
      · rw [if_neg hz]; decide
    obtain ⟨m1, m2⟩ := mfl_half _ hac.1 hac.2
    rw [mit, mst]
    show _ ≤ ((mit P k).1 + ((mit P k).2.1.toInt64 + mfl (mac P (mit P k)).toInt64 2)).toInt - _ ∧ ((mit P k).1 + ((mit P k).2.1.toInt64 + mfl (mac P (mit P k)).toInt64 2)).toInt - _ ≤ _
    generalize mfl (mac P (mit P k)).toInt64 2 = F at *
    generalize (mit P k).1 = X at *
    generalize (mit P k).2.1 = Y at *
    have a1 : (Y.toInt64 + F).toInt = Y.toInt + F.toInt := by
      rw [Int64.toInt_add, Int32.toInt_toInt64]
      apply Int.bmod_eq_of_le_mul_two <;> omega
    have a2 : (X + (Y.toInt64 + F)).toInt = X.toInt + (Y.toInt + F.toInt) := by
      rw [Int64.toInt_add, a1]
      apply Int.bmod_eq_of_le_mul_two <;> omega
    rw [a2]
    omega
theorem mRu_HB {P : am_S} (hB : mHB P) (N : Nat) : mHB (mRu P N) := by
  have hv := xvr_n hB (fun j _ => ⟨rfl, rfl⟩ : ∀ j, j < sn P 0 → sI P 0 j = sI P 0 j ∧ sI P 1 j = sI P 1 j) N
  obtain ⟨v1, v2, v3, v4, v5, v6, v7, v8⟩ := hv
  obtain ⟨b1, b2, b3, b4⟩ := hB
  have n0 : sn (mRu P N) 0 = sn P 0 - (mit P N).2.2.1 := rfl
  have nI1 : sI (mRu P N) 1 = mshf (sI P 1) (mit P N).2.2.1 (sn P 0 - (mit P N).2.2.1) := rfl
  have nI0 : sI (mRu P N) 0 = (if sn P 0 - (mit P N).2.2.1 = 0 then mshf (sI P 0) (mit P N).2.2.1 (sn P 0 - (mit P N).2.2.1) else va_up (mshf (sI P 0) (mit P N).2.2.1 (sn P 0 - (mit P N).2.2.1)) 0 (mshf (sI P 0) (mit P N).2.2.1 (sn P 0 - (mit P N).2.2.1) 0 - (mit P N).2.2.2)) := rfl
  refine ⟨by rw [n0]; omega, fun k hk => ?_, v7, v8⟩
  rw [n0] at hk
  rw [v3] at v6
  obtain ⟨u1, u2, u3⟩ := v6 (by omega)
  obtain ⟨q1, q2, q3, q4⟩ := b2 (k + (mit P N).2.2.1) (by omega)
  have e1 : sI (mRu P N) 1 k = sI P 1 (k + (mit P N).2.2.1) := by rw [nI1]; exact if_pos hk
  rw [e1, nI0, if_neg (by omega)]
  refine ⟨?_, ?_, q3, q4⟩
  all_goals
    by_cases hz : k = 0
    · subst hz
      rw [up_at, show mshf (sI P 0) (mit P N).2.2.1 (sn P 0 - (mit P N).2.2.1) 0 = sI P 0 (0 + (mit P N).2.2.1) from if_pos hk]
      rw [Nat.zero_add] at q1 q2 ⊢
      have : (sI P 0 (mit P N).2.2.1 - (mit P N).2.2.2).toInt = (sI P 0 (mit P N).2.2.1).toInt - (mit P N).2.2.2.toInt := by
        rw [Int32.toInt_sub]
        apply Int.bmod_eq_of_le_mul_two <;> omega
      rw [this]
      omega
    · rw [up_ne _ _ hz, show mshf (sI P 0) (mit P N).2.2.1 (sn P 0 - (mit P N).2.2.1) k = sI P 0 (k + (mit P N).2.2.1) from if_pos hk]
      omega
/-! sums of estimates -/
theorem mcs_b {P : am_S} (hB : iB P) (hA : iA P) (ht : 0 < sn P 3) : ∀ i : Nat, i ≤ 20 → -(7000000000000 * (i : Int)) ≤ (mcs P i).2.toInt ∧ (mcs P i).2.toInt ≤ 7000000000000 * (i : Int) := by
  intro i
  induction i with
  | zero => intro _; rw [mcs]; show _ ≤ (0 : Int64).toInt ∧ (0 : Int64).toInt ≤ _; rw [show (0 : Int64).toInt = 0 from rfl]; omega
  | succ i ih =>
    intro hi
    obtain ⟨i1, i2⟩ := ih (by omega)
    obtain ⟨m1, m2, m3, m4⟩ := mcs_x P i
    have hJ : sJ (mcs P i).1 = sJ P := by unfold sJ; rw [m3]
    have hn : sn (mcs P i).1 = sn P := m1
    have h6 := hA.2.2.2.2
    obtain ⟨b1, b2⟩ := mes_b (L := sJ P 2) (f := mph (mcs P i).1 0) (sn P 3 - 1) (by omega) (fun j hj => ⟨hB j (by omega), by
      have := mph_e (mcs P i).1 0 (0 + sJ (mcs P i).1 0 (sn (mcs P i).1 2)) rfl j (by rw [hJ]; exact (hB.L j (by omega)).1) (by rw [hJ]; exact (hB j (by omega)).2)
      exact this.2⟩)
    rw [mcs]
    show _ ≤ ((mcs P i).2 + mes (sJ P 2) (mph (mcs P i).1 0) (sn P 3 - 1)).toInt ∧ ((mcs P i).2 + mes (sJ P 2) (mph (mcs P i).1 0) (sn P 3 - 1)).toInt ≤ _
    generalize mes (sJ P 2) (mph (mcs P i).1 0) (sn P 3 - 1) = E at *
    generalize (mcs P i).2 = S at *
    have a1 : (S + E).toInt = S.toInt + E.toInt := by
      rw [Int64.toInt_add]
      apply Int.bmod_eq_of_le_mul_two <;> omega
    rw [a1]
    omega
/-! a list without repetition -/
theorem pig : ∀ (m n : Nat) (f : Nat → Nat), (∀ k, k < n → f k < m) → (∀ j k, j < k → k < n → f j ≠ f k) → n ≤ m := by
  intro m
  induction m with
  | zero =>
    intro n f hb _
    by_cases hn : n = 0
    · omega
    · exact absurd (hb 0 (by omega)) (Nat.not_lt_zero _)
  | succ m ih =>
    intro n f hb hi
    by_cases hex : ∃ k, k < n ∧ f k = m
    · obtain ⟨k, hk, hfk⟩ := hex
      have := ih (n - 1) (fun j => if j < k then f j else f (j + 1)) (fun j hj => by
        by_cases hjk : j < k
        · rw [if_pos hjk]
          have h1 := hb j (by omega)
          have h2 := hi j k hjk hk
          omega
        · rw [if_neg hjk]
          have h1 := hb (j + 1) (by omega)
          have h2 := hi k (j + 1) (by omega) (by omega)
          omega) (fun a b hab hbn => by
        by_cases ha : a < k
        · rw [if_pos ha]
          by_cases hb2 : b < k
          · rw [if_pos hb2]; exact hi a b hab (by omega)
          · rw [if_neg hb2]; exact hi a (b + 1) (by omega) (by omega)
        · rw [if_neg ha, if_neg (by omega)]; exact hi (a + 1) (b + 1) (by omega) (by omega))
      omega
    · have := ih n f (fun k hk => by
        have h1 := hb k hk
        have h2 : ¬ f k = m := fun z => hex ⟨k, hk, z⟩
        omega) hi
      omega
