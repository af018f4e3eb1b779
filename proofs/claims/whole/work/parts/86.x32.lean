/-! calibrate, beginPass, observe; the start -/
theorem xInv.cg {n : Nat} {P Q : am_S} (h1 : Q.1 = P.1) (h3 : Q.2.2 = P.2.2) (h4 : ∀ j, j ≠ 4 → si Q j = si P j) (hv : xInv n P) : xInv n Q := by
  obtain ⟨pn, pi, pr⟩ := P
  obtain ⟨qn, qi, qr⟩ := Q
  cases h1
  cases h3
  have i0 : qi 0 = pi 0 := h4 0 (by decide)
  have i1 : qi 1 = pi 1 := h4 1 (by decide)
  have i2 : qi 2 = pi 2 := h4 2 (by decide)
  have i3 : qi 3 = pi 3 := h4 3 (by decide)
  have i5 : qi 5 = pi 5 := h4 5 (by decide)
  obtain ⟨hA, hB, hC, hD, hE, hF, hG, hH, hM⟩ := hv
  refine ⟨hA, hB, ?_, ?_, hE, hF, ?_, ?_, ?_⟩
  · show (0 ≤ (qi 1).toInt ∧ (qi 1).toInt ≤ 1000000) ∧ (1 ≤ (qi 2).toInt ∧ (qi 2).toInt ≤ 10000) ∧ (0 ≤ (qi 3).toInt ∧ (qi 3).toInt ≤ 30000) ∧ (1 ≤ (qi 5).toInt ∧ (qi 5).toInt ≤ 50)
    rw [i1, i2, i3, i5]; exact hC
  · refine ⟨?_, hD.2⟩
    show -(10005000 * (qi 1).toInt) ≤ _ ∧ _ ≤ 10000000000000 + 10005000 * (qi 1).toInt
    rw [i1]; exact hD.1
  · refine ⟨fun o ho => ⟨(hG.1 o ho).1, ⟨(hG.1 o ho).2.1.1, ?_⟩, (hG.1 o ho).2.2⟩, hG.2⟩
    show _ ≤ (qi 1).toInt
    rw [i1]; exact (hG.1 o ho).2.1.2
  · intro z
    obtain ⟨g1, g2, g3, g4, g5⟩ := hH z
    exact ⟨g1, g2, g3, g4.trans i2.symm, g5⟩
  · refine ⟨hM.1, hM.2.1, ?_⟩
    show -10000000 ≤ (qi 0).toInt ∧ (qi 0).toInt ≤ 10000000
    rw [i0]; exact hM.2.2
theorem xInv.est {n : Nat} {P : am_S} (hv : xInv n P) {s : Nat} {v : Int64} (h1 : -200000000000000 ≤ v.toInt) (h2 : v.toInt ≤ 200000000000000) : xInv n (uJ P 1 (va_up (sJ P 1) s v)) := by
  obtain ⟨hA, hB, hC, hD, hE, hF, hG, hH, hM⟩ := hv
  refine ⟨hA, hB, hC, hD, fun t ht => ?_, hF, hG, hH, hM⟩
  show -200000000000000 ≤ (va_up (sJ P 1) s v t).toInt ∧ (va_up (sJ P 1) s v t).toInt ≤ 200000000000000
  by_cases hz : t = s
  · rw [hz, up_at]; exact ⟨h1, h2⟩
  · rw [up_ne _ _ hz]; exact hE t ht
theorem nc_ne {P : am_S} (hA : iA P) (hc : ¬ mCal P (Int32.ofNat (sn P 2)) = 1) : ∀ k, k < sn P 1 → sN P 0 k ≠ sn P 2 := fun k hk z => hc (mCal_t ⟨k, hk, by rw [z]⟩)
theorem nc_lt {P : am_S} (hA : iA P) (hc : ¬ mCal P (Int32.ofNat (sn P 2)) = 1) : sn P 1 < 10 := by
  have hne := nc_ne hA hc
  have := pig 10 (sn P 1 + 1) (va_up (sN P 0) (sn P 1) (sn P 2)) (fun k hk => by
    by_cases hz : k = sn P 1
    · rw [hz, up_at]; exact hA.2.2.2.1
    · rw [up_ne _ _ hz]; exact hA.2.1 k (by omega)) (fun j k hjk hk => by
    rw [up_ne _ _ (show ¬ j = sn P 1 by omega)]
    by_cases hz : k = sn P 1
    · rw [hz, up_at]; exact hne j (by omega)
    · rw [up_ne _ _ hz]; exact hA.2.2.1 j k hjk (by omega))
  omega
theorem xInv.cd {n : Nat} {P : am_S} (hv : xInv n P) (hc : ¬ mCal P (Int32.ofNat (sn P 2)) = 1) : xInv n (mCd P) := by
  obtain ⟨hA, hB, hC, hD, hE, hF, hG, hH, hM⟩ := hv
  have hne := nc_ne hA hc
  have hlt := nc_lt hA hc
  refine ⟨⟨show sn P 1 + 1 ≤ 10 by omega, fun k hk => ?_, fun j k hjk hk => ?_, hA.2.2.2⟩, hB, hC, hD, hE, hF, hG, hH, hM⟩
  · have hk : k < sn P 1 + 1 := hk
    show va_up (sN P 0) (sn P 1) (sn P 2) k < 10
    by_cases hz : k = sn P 1
    · rw [hz, up_at]; exact hA.2.2.2.1
    · rw [up_ne _ _ hz]; exact hA.2.1 k (by omega)
  · have hk : k < sn P 1 + 1 := hk
    show va_up (sN P 0) (sn P 1) (sn P 2) j ≠ va_up (sN P 0) (sn P 1) (sn P 2) k
    rw [up_ne _ _ (show ¬ j = sn P 1 by omega)]
    by_cases hz : k = sn P 1
    · rw [hz, up_at]; exact hne j (by omega)
    · rw [up_ne _ _ hz]; exact hA.2.2.1 j k hjk (by omega)
theorem st_18 {n : Nat} {P : am_S} (hv : xInv n P) (a : Int32) : oJ n 46 201 135 [.int a] P := by
  have h36 := hv.1.2.2.2.2
  have h20 := hv.2.2.2.2.2.1.1
  by_cases h : 1 ≤ a.toInt64 ∧ a.toInt64 ≤ 20
  · by_cases ht : sn P 3 = 0
    · exact oJ.e hv (by decide) (fun d M G r => wo_201e2 _ (xo_46b a h ht) r d) (mo_135b a h ht)
    · have ht : 0 < sn P 3 := by omega
      by_cases hr : sn P 6 = 0
      · have a1 : 1 ≤ a.toInt := le32l h.1
        have a2 : a.toInt ≤ 20 := le32r h.2
        obtain ⟨N, rfl, hN⟩ := of_nn a (by omega)
        have hA := hv.1
        have hB := hv.2.1
        have hC := hv.2.2.1
        obtain ⟨m1, m2, m3, m4⟩ := mcs_x P N
        have hn : sn (mcs P N).1 = sn P := m1
        have hJ : sJ (mcs P N).1 = sJ P := by unfold sJ; rw [m3]
        have hQ : xInv n (mcs P N).1 := hv.cg m1 m3 m4
        have hL := hB.L
        have hcl : ¬ mCal (mcs P N).1 (Int32.ofNat (sn P 2)) = 1 → sn (mcs P N).1 1 < 10 := fun z => nc_lt hQ.1 (by rw [hn]; exact z)
        have hx := xo_46t (by omega) (by omega) h ht h36 hr hA.2.2.2.1 hcl hL hC.2.2.1.1 hC.nz
        have hm := mo_135t (by omega) (by omega) h ht h36 hr hA.2.2.2.1 hA.1 (fun z => by have := hcl z; rw [hn] at this; exact this) (fun k hk => (pos64 (hB k hk).1 (hB k hk).2).2.2.2) (fun k hk => (pos64 (hB k hk).1 (hB k hk).2).2.2.1) hC.nz
        obtain ⟨s1, s2⟩ := mcs_b hB hA ht N (by omega)
        have hNi : (Int32.ofNat N).toInt64.toInt = N := by rw [Int32.toInt_toInt64]; exact hN.symm
        obtain ⟨-, -, v1⟩ := mfl_fl (mcs P N).2 (Int32.ofNat N).toInt64 (by omega) (by omega)
        refine oJ.t ?_ hx hm
        unfold mCb mCc
        by_cases hc : mCal (mcs P N).1 (Int32.ofNat (sn (mcs P N).1 2)) = 1
        · rw [if_pos hc, ← hJ]
          exact hQ.up.est (by omega) (by omega)
        · rw [if_neg hc]
          have := (hQ.cd hc).up.est (s := sn P 2) (v := mfl (mcs P N).2 (Int32.ofNat N).toInt64) (by omega) (by omega)
          rw [show sJ (mCd (mcs P N).1) = sJ (mcs P N).1 from rfl, hJ] at this
          exact this
      · exact oJ.e hv (by decide) (fun d M G r => wo_201e2 _ (xo_46c a h ht h36 hr) r d) (mo_135c a h ht h36 hr h20)
  · exact oJ.e hv (by decide) (fun d M G r => wo_201e1 _ (xo_46a a h) r d) (mo_135a a h)
theorem st_21 {n : Nat} {P : am_S} (hv : xInv n P) : oI n 49 204 138 [] P := by
  have h36 := hv.1.2.2.2.2
  have hI := hv.hI
  have h20 := hI.2.1
  by_cases hr : sn P 6 = 0
  · by_cases ht : sn P 3 = 0
    · exact oI.e hv (by decide) (fun d M G r => wo_204e1 (xo_49b hr ht) r d) (mo_138b hr ht)
    · have ht : 0 < sn P 3 := by omega
      by_cases hp : sn P 4 = 20
      · exact oI.e hv (by decide) (fun d M G r => wo_204e1 (xo_49c hr ht h36 hp) r d) (mo_138c hr ht h36 hp)
      · have hp : sn P 4 < 20 := by omega
        have hC := hv.2.2.1
        have hF0 := hv.2.2.2.2.2.1
        have hx := xo_49t hI hr ht h36 hp (pos32 hC.2.1.1).1 hF0.2.2.2.1
        have hm := mo_138t hr ht h36 hp (pos32 hC.2.1.1).2
        obtain ⟨hA, hB, hC, hD, hE, hF, hG, hH, hM⟩ := hv
        obtain ⟨u1, u2, u3, u4⟩ := mBp_up P
        refine oI.t (P' := mBp P) ⟨hA, hB, hC, hD, hE, ?_, ?_, ?_, hM⟩ hx hm
        · obtain ⟨f1, f2, f3, f4, f5⟩ := hF.up
          refine ⟨show sn P 4 + 1 ≤ 20 by omega, f2, fun p hp9 => ?_, fun p hp9 => f4 p (by have hp9 : sn P 4 + 1 ≤ p := hp9; omega), f5⟩
          have hp9 : p < sn P 4 + 1 := hp9
          rw [u1, u2, u3, u4]
          by_cases hz : p = sn P 4
          · rw [hz, up_at, up_at, up_at, up_at]
            obtain ⟨-, -, v1⟩ := mfl_fl (sj P 0) (si P 2).toInt64 (by rw [Int32.toInt_toInt64]; have := hC.2.1.1; omega) (by have := hD.1.1; have := hC.1; omega)
            refine ⟨⟨by omega, h36, hA.2.2.2.1⟩, hC.2.1, ?_, ?_, fun k hk => ?_⟩
            · have := hD.1; have := hC.1; omega
            · rw [show sJ (mBp P) 5 = sJ P 5 from rfl, (f4 (sn P 4) (Nat.le_refl _)).1]
              rw [show (0 : Int64).toInt = 0 from rfl]
              omega
            · rw [mBp_J3n P k hk]; exact hB k hk
          · have hp8 : p < sn P 4 := by omega
            rw [up_ne _ _ hz, up_ne _ _ hz, up_ne _ _ hz, up_ne _ _ hz]
            obtain ⟨g1, g2, g3, g4, g5⟩ := f3 p hp8
            exact ⟨g1, g2, g3, g4, fun k hk => by rw [mBp_J3 P _ (by omega)]; exact g5 k hk⟩
        · refine ⟨fun o ho => ?_, hG.2⟩
          obtain ⟨g1, g2, g3, g4⟩ := hG.1 o ho
          refine ⟨show sN P 3 o < sn P 4 + 1 by omega, g2, g3, ?_⟩
          show ∀ k, k < sN (mBp P) 2 (sN P 3 o) → _
          rw [u2, up_ne _ _ (show ¬ sN P 3 o = sn P 4 by omega)]
          exact g4
        · intro _
          show 1 ≤ sn P 4 + 1 ∧ sN (mBp P) 1 (sn P 4 + 1 - 1) = sn P 2 ∧ sN (mBp P) 2 (sn P 4 + 1 - 1) = sn P 3 ∧ sI (mBp P) 2 (sn P 4 + 1 - 1) = si P 2 ∧ ∀ k, k < sn P 3 → sJ (mBp P) 3 (6 * (sn P 4 + 1 - 1) + k) = sJ P 2 k
          rw [Nat.add_sub_cancel, u1, u2, u3, up_at, up_at, up_at]
          exact ⟨by omega, rfl, rfl, rfl, fun k hk => mBp_J3n P k hk⟩
  · exact oI.e hv (by decide) (fun d M G r => wo_204e1 (xo_49a hr) r d) (mo_138a hr h20)
theorem st_23 {n : Nat} {P : am_S} (hv : xInv n P) (hn9 : n ≤ 600) : oI n 51 206 141 [] P := by
  have h36 := hv.1.2.2.2.2
  have hI := hv.hI
  have hW := hv.hW
  have h20 := hI.2.1
  have h100 := hI.1
  by_cases hr : sn P 6 = 0
  · exact oI.e hv (by decide) (fun d M G r => wo_206e1 (xo_51a hr) r d) (mo_141a hr)
  · by_cases ho : sn P 5 = 100
    · exact oI.e hv (by decide) (fun d M G r => wo_206e1 (xo_51b hr ho) r d) (mo_141b hr h20 ho)
    · have ho : sn P 5 < 100 := by omega
      obtain ⟨i1, i2, i3, i4, i5⟩ := hv.2.2.2.2.2.2.2.1 hr
      have hA0 := hv.1
      have hB0 := hv.2.1
      have hC := hv.2.2.1
      have hx := xo_51t hI hW (p := sn P 4 - 1) (by omega) hr ho i2 i3 i4 i5 hB0.L hC.2.2.1.1 hC.nz
      have hm := mo_141t hr h20 ho h36 hA0.2.2.2.1 (fun k hk => (pos64 (hB0 k hk).1 (hB0 k hk).2).2.2.2) hC.nz (pos32 hC.2.1.1).2
      obtain ⟨hA, hB, hC, hD, hE, hF, hG, hH, hM⟩ := hv
      obtain ⟨u1, u2, u3, u4⟩ := mOb_u P
      obtain ⟨f1, f2, f3, f4, f5⟩ := hF
      have hcn : -100000000000000 ≤ (mCn P).toInt ∧ (mCn P).toInt ≤ 100000000000000 := by
        obtain ⟨-, -, v1⟩ := mfl_fl (sj P 0) (si P 2).toInt64 (by rw [Int32.toInt_toInt64]; have := hC.2.1.1; omega) (by have := hD.1.1; have := hC.1; omega)
        obtain ⟨-, -, b1, b2, -⟩ := f3 (sn P 4 - 1) (by omega)
        have hd := hD.1
        have hc := hC.1
        unfold mCn
        generalize mfl (sj P 0) (si P 2).toInt64 = X at *
        generalize sJ P 4 (sn P 4 - 1) = Y at *
        generalize sJ P 5 (sn P 4 - 1) = Z at *
        have e1 : (X - Y).toInt = X.toInt - Y.toInt := by
          rw [Int64.toInt_sub]
          apply Int.bmod_eq_of_le_mul_two <;> omega
        have e2 : (X - Y + Z).toInt = X.toInt - Y.toInt + Z.toInt := by
          rw [Int64.toInt_add, e1]
          apply Int.bmod_eq_of_le_mul_two <;> omega
        rw [e2]
        omega
      refine oI.t (P' := mOb P) ?_ hx hm
      have hF2 : iF n (mOb P) := ⟨f1, show sn P 5 + 1 ≤ 100 by omega, f3, f4, f5⟩
      have hQ : xInv n (uI (uN (uI (uJ (un P 5 (sn P 5 + 1)) 7 (va_up (sJ P 7) (sn P 5) (mCn P))) 4 (mcp (sI P 4) (6 * sn P 5) (mph P (sj P 0)) (sn P 3))) 3 (va_up (sN P 3) (sn P 5) (sn P 4 - 1))) 3 (va_up (sI P 3) (sn P 5) (si P 1))) := by
        refine ⟨hA, hB, hC, hD, hE, hF2, ⟨fun o ho9 => ?_, fun a b hab hb => ?_⟩, hH, hM⟩
        · have ho9 : o < sn P 5 + 1 := ho9
          show va_up (sN P 3) (sn P 5) (sn P 4 - 1) o < sn P 4 ∧ (0 ≤ (va_up (sI P 3) (sn P 5) (si P 1) o).toInt ∧ (va_up (sI P 3) (sn P 5) (si P 1) o).toInt ≤ (si P 1).toInt) ∧ (-100000000000000 ≤ (va_up (sJ P 7) (sn P 5) (mCn P) o).toInt ∧ (va_up (sJ P 7) (sn P 5) (mCn P) o).toInt ≤ 100000000000000) ∧ ∀ k, k < sN P 2 (va_up (sN P 3) (sn P 5) (sn P 4 - 1) o) → 0 ≤ (mcp (sI P 4) (6 * sn P 5) (mph P (sj P 0)) (sn P 3) (6 * o + k)).toInt ∧ (mcp (sI P 4) (6 * sn P 5) (mph P (sj P 0)) (sn P 3) (6 * o + k)).toInt ≤ 999
          by_cases hz : o = sn P 5
          · rw [hz, up_at, up_at, up_at, i3]
            refine ⟨by omega, ⟨hC.1.1, Int.le_refl _⟩, hcn, fun k hk => ?_⟩
            unfold mcp
            rw [if_pos (by omega), show 6 * sn P 5 + k - 6 * sn P 5 = k by omega]
            exact (mph_e P (sj P 0) _ rfl k (hB.L k hk).1 (hB k hk).2).2
          · obtain ⟨g1, g2, g3, g4⟩ := hG.1 o (by omega)
            rw [up_ne _ _ hz, up_ne _ _ hz, up_ne _ _ hz]
            refine ⟨g1, g2, g3, fun k hk => ?_⟩
            have := (f3 _ g1).1.2.1
            unfold mcp
            rw [if_neg (by omega)]
            exact g4 k hk
        · have hb : b < sn P 5 + 1 := hb
          show (va_up (sI P 3) (sn P 5) (si P 1) a).toInt ≤ (va_up (sI P 3) (sn P 5) (si P 1) b).toInt
          by_cases hz : b = sn P 5
          · rw [hz, up_at]
            by_cases hz2 : a = sn P 5
            · rw [hz2, up_at]; exact Int.le_refl _
            · rw [up_ne _ _ hz2]; exact (hG.1 a (by omega)).2.1.2
          · rw [up_ne _ _ hz, up_ne _ _ (show ¬ a = sn P 5 by omega)]
            exact hG.2 a b hab (by omega)
      refine xInv.up (xInv.cg ?_ ?_ ?_ hQ)
      · rfl
      · obtain ⟨pn, pi, pj, pN, pI, pJ⟩ := P
        show (_, _, _, _) = (_, _, _, _)
        simp only [Prod.mk.injEq]
        refine ⟨rfl, rfl, ?_, rfl⟩
        exact up_cm _ (by decide) _ _
      · intro j hj
        show va_up (si P) 4 _ j = si P j
        exact up_ne _ _ hj
theorem xInv_0 : xInv 0 xP0 := by
  refine ⟨⟨by decide, fun k hk => absurd hk (Nat.not_lt_zero k), fun j k _ hk => absurd hk (Nat.not_lt_zero k), by decide, by decide⟩, fun k hk => absurd hk (Nat.not_lt_zero k), by unfold iC; decide, by unfold iD; decide, fun s _ => (by decide : -200000000000000 ≤ (0 : Int64).toInt ∧ (0 : Int64).toInt ≤ 200000000000000), ⟨by decide, by decide, fun p hp => absurd hp (Nat.not_lt_zero p), fun p _ => ⟨rfl, rfl, rfl⟩, fun p => Nat.zero_le _⟩, ⟨fun o ho => absurd ho (Nat.not_lt_zero o), fun a b _ hb => absurd hb (Nat.not_lt_zero b)⟩, iH.no rfl, ⟨by decide, fun k hk => absurd hk (Nat.not_lt_zero k), by decide, by decide⟩⟩
theorem st_31 {n : Nat} {P : am_S} (hv : xInv n P) : 0 < sn P 5 → ¬ sI P 3 0 = -1 := by
  intro h z
  have := (hv.2.2.2.2.2.2.1.1 0 h).2.1.1
  rw [z] at this
  exact absurd this (by decide)
