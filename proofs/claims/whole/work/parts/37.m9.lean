/-! the model: ranges of observations -/
def mInv (P : am_S) : Prop := sn P 5 ≤ 100 ∧ sn P 4 ≤ 20 ∧ (∀ o, o < sn P 5 → sN P 3 o < sn P 4) ∧ (∀ p, p < sn P 4 → 1 ≤ sN P 2 p ∧ sN P 2 p ≤ 6 ∧ sN P 1 p < 10 ∧ ∀ k, k < sN P 2 p → ¬ 2 * sJ P 3 (6 * p + k) = 0)
theorem ix_m (k : Nat) : (6 : Int32) * Int32.ofNat k = Int32.ofNat (6 * k) := (Int32.ofNat_mul 6 k).symm
theorem mes_cg {L L' : Nat → Int64} {ph ph' : Nat → Int32} : ∀ (k : Nat), (∀ j, j ≤ k → L j = L' j ∧ ph j = ph' j) → mes L ph k = mes L' ph' k := by
  intro k
  induction k with
  | zero =>
    intro h
    show (ph 0).toInt64 * L 0 / 1000 = (ph' 0).toInt64 * L' 0 / 1000
    rw [(h 0 (Nat.le_refl _)).1, (h 0 (Nat.le_refl _)).2]
  | succ k ih =>
    intro h
    show (ph (k + 1)).toInt64 * L (k + 1) / 1000 + mti (mes L ph k - (ph (k + 1)).toInt64 * L (k + 1) / 1000) (L (k + 1)) * L (k + 1) = (ph' (k + 1)).toInt64 * L' (k + 1) / 1000 + mti (mes L' ph' k - (ph' (k + 1)).toInt64 * L' (k + 1) / 1000) (L' (k + 1)) * L' (k + 1)
    rw [ih (fun j hj => h j (by omega)), (h (k + 1) (Nat.le_refl _)).1, (h (k + 1) (Nat.le_refl _)).2]
/-- the tones of observation o's pass; its phases; its estimates -/
def mW (P : am_S) (o k : Nat) : Int64 := sJ P 3 (6 * sN P 3 o + k)
def mE (P : am_S) (o k : Nat) : Int64 := mes (mW P o) (fun k => sI P 4 (6 * o + k)) k
def mPl (P : am_S) (o k : Nat) : Int64 := mE P o k - sJ P 1 (sN P 1 (sN P 3 o)) + mti (sj P 1 - (mE P o k - sJ P 1 (sN P 1 (sN P 3 o)))) (mW P o 0) * mW P o 0
def mRk (P : am_S) (o k : Nat) : Int64 := mPl P o k + sJ P 6 (sN P 3 o) * mW P o 0
def mRo (P : am_S) (o : Nat) : Int64 := mRk P o (sN P 2 (sN P 3 o) - 1)
def mPt (P : am_S) (T : am_T) (v : Option Value) (M : am_M) (r : Option Value ⊕ Nat) (M' : am_M) : Prop := r = .inl v ∧ ∃ T9 : am_T, mRep P T9 M' ∧ mFr M M' ∧ T9.1 = T.1
def mPy (P : am_S) (o : Nat) (T : am_T) (M : am_M) (r : Option Value ⊕ Nat) (M' : am_M) : Prop := r = .inl none ∧ ∃ T9 : am_T, mRep P T9 M' ∧ mFr M M' ∧ T9.1 = T.1 ∧ ∀ k, k < sN P 2 (sN P 3 o) → T9.2.1 k = mW P o k ∧ T9.2.2.1 k = mE P o k
theorem ml_154 {P : am_S} {M0 : am_M} {t : Nat → Value} {T0 : am_T} (ht : t = T0.1) {o : Nat} (ho : o < 100) (hp : sN P 3 o < 20) (h6 : sN P 2 (sN P 3 o) ≤ 6) (hd : ∀ k, k < sN P 2 (sN P 3 o) → ¬ 2 * mW P o k = 0) {d : Nat} :
    ∀ (j i : Nat), i + j = sN P 2 (sN P 3 o) → ∀ (L g : Nat → Int64) (ph : Nat → Int32) (M : am_M), mRep P (t, L, g, ph) M → mFr M0 M → (∀ k, k < i → L k = mW P o k ∧ ph k = sI P 4 (6 * o + k)) →
      am_W (d + 4) none 154 9 [(3, .int (Int32.ofNat i)), (2, .int (Int32.ofNat (sN P 3 o))), (0, .ref 23), (1, .int (Int32.ofNat o))] [] M (mPy P o T0 M0) := by
  subst ht
  intro j
  have p0 : ¬ Int32.ofNat (sN P 3 o) < 0 := ix_0 (by omega)
  have p1 : (Int32.ofNat (sN P 3 o)).toNatClampNeg = sN P 3 o := ix_n (by omega)
  have p2 : ¬ 20 ≤ sN P 3 o := by omega
  have o0 : ¬ Int32.ofNat (o) < 0 := ix_0 (by omega)
  have o1 : (Int32.ofNat (o)).toNatClampNeg = o := ix_n (by omega)
  have o2 : ¬ 100 ≤ o := by omega
  induction j with
  | zero =>
    intro i hi L g ph M r f hT
    have hi : i = sN P 2 (sN P 3 o) := hi
    subst hi
    have e := mm_23 r
    have hge : Int32.ofNat (sN P 2 (sN P 3 o)) ≤ Int32.ofNat (sN P 2 (sN P 3 o)) := Int32.le_refl _
    have i0 : ¬ Int32.ofNat (0) < 0 := ix_0 (by omega)
    have i1 : (Int32.ofNat (0)).toNatClampNeg = 0 := ix_n (by omega)
    have i2 : ¬ 6 ≤ 0 := by omega
    have e30 := mm_30 r
    have e32 := mm_32 r
    have e34 := mm_34 r
    have e36 := mm_36 r
    have e41 := mm_41 r
    have e43 := mm_43 r
    refine w_go 11 (by simp only [xi_154_9, xi_154_10, xi_154_11, xi_154_14, xi_154_15, xi_154_16, xi_154_59, xi_154_60, xi_154_61, xi_154_64, xi_154_65, hge, i0, i1, i2, p0, p1, p2, o0, o1, o2, e, e30, e32, e34, e36, e41, e43, mf_0, mf_1, mf_2, mf_3, mf_4, mf_5, mf_6, mf_7, mf_8, mf_9, mf_10, mf_11, mf_12, mf_13, mf_14, mf_15, mf_16, mf_17, mf_18, mf_19, mf_20, mf_21, mf_22, mf_23, mf_24, mf_25, mf_26, mf_27, mf_28, mf_29, mf_30, mf_31, mf_32, mf_33, mf_34, mf_35, mf_36, mf_37, mf_38, mf_39, mf_40, mf_41, mf_42, mf_43, tf_1, sn_un, sn_ui, sn_uj, sn_uN, sn_uI, sn_uJ, si_un, si_ui, si_uj, si_uN, si_uI, si_uJ, sj_un, sj_ui, sj_uj, sj_uN, sj_uI, sj_uJ, sN_un, sN_ui, sN_uj, sN_uN, sN_uI, sN_uJ, sI_un, sI_ui, sI_uj, sI_uN, sI_uI, sI_uJ, sJ_un, sJ_ui, sJ_uj, sJ_uN, sJ_uI, sJ_uJ, go_0, go_s, bd_nx, q_ldi, q_ldj, q_ldd, q_lda, q_ldn, q_ldr, q_sta, q_stn, q_str, q_lg, q_i1, q_i2, q_j1, q_j2, q_ij, q_d1, q_d2, q_a1, q_ia, q_via, q_set, q_new, q_pay, q_gf, q_pf, q_oki, q_okj, q_okd, q_oka, q_okn, q_ai, q_aj, q_ad, q_aa, q_len, q_wi, q_wj, q_wd, q_wa, q_s1, q_s2, q_args0, q_args, q_ci, q_cj, q_cd, q_cr, q_cn, q_cx, am_inc, am_dup, am_dup2, am_nul, am_put, am_aln, am_ial, am_aas, Option.bind_some, List.filter_cons, List.filter_nil, ↓reduceIte, Nat.reduceEqDiff, Nat.reduceAdd, Nat.reduceBEq, Nat.reduceLT, List.getElem?_cons_zero, List.getElem?_cons_succ, List.set_cons_zero, List.set_cons_succ, List.length_cons, List.length_nil, Bool.not_true, Bool.not_false, Bool.and_true, Bool.true_and, Bool.false_and, Bool.and_false, and_true, true_and, and_self, Nat.one_ne_zero, Nat.zero_ne_one, Bool.false_eq_true, beq_self_eq_true, reduceCtorEq, Nat.zero_add, or_self, or_false, false_or, or_true, true_or, q_ok21, q_ok20, not_true_eq_false, not_false_eq_true, q_clt, q_cge, q_ceq, q_cgt, q_cle, Option.toList_some, Option.toList_none, List.cons_append, List.nil_append, q_obg, q_obp, q_up, Nat.reduceLeDiff]; rfl) ?_
    refine w_call (by simp only [xi_154_66, q_iv0, q_is1, q_is2, q_is3, q_is4, q_io1, q_io2, q_io3, q_io4, q_io5, q_rcv, q_obr, am_wt, or_true, true_or, or_self, not_false_eq_true, i0, i1, i2, p0, p1, p2, o0, o1, o2, e, e30, e32, e34, e36, e41, e43, go_0, go_s, bd_nx, q_ldi, q_ldj, q_ldd, q_lda, q_ldn, q_ldr, q_sta, q_stn, q_str, q_lg, q_i1, q_i2, q_j1, q_j2, q_ij, q_d1, q_d2, q_a1, q_ia, q_via, q_set, q_new, q_pay, q_gf, q_pf, q_oki, q_okj, q_okd, q_oka, q_okn, q_ai, q_aj, q_ad, q_aa, q_len, q_wi, q_wj, q_wd, q_wa, q_s1, q_s2, q_args0, q_args, q_ci, q_cj, q_cd, q_cr, q_cn, q_cx, am_inc, am_dup, am_dup2, am_nul, am_put, am_aln, am_ial, am_aas, Option.bind_some, List.filter_cons, List.filter_nil, ↓reduceIte, Nat.reduceEqDiff, Nat.reduceAdd, Nat.reduceBEq, Nat.reduceLT, List.getElem?_cons_zero, List.getElem?_cons_succ, List.set_cons_zero, List.set_cons_succ, List.length_cons, List.length_nil, Bool.not_true, Bool.not_false, Bool.and_true, Bool.true_and, Bool.false_and, Bool.and_false, and_true, true_and, and_self, Nat.one_ne_zero, Nat.zero_ne_one, Bool.false_eq_true, beq_self_eq_true, reduceCtorEq, Nat.zero_add, or_self, or_false, false_or, or_true, true_or, q_ok21, q_ok20, not_true_eq_false, not_false_eq_true, q_clt, q_cge, q_ceq, q_cgt, q_cle, Option.toList_some, Option.toList_none, List.cons_append, List.nil_append, q_obg, q_obp, q_up, Nat.reduceLeDiff]; rfl) xt_154_66 (Nat.le_of_ble_eq_true rfl) (m_133 (d + 1) r h6 (fun k hk => by rw [(hT k hk).1]; exact hd k hk)) rfl (fun v M9 hq => ?_) (fun E M9 hq => by cases hq.1)
    obtain ⟨hv, T9, r9, f9, t9⟩ := hq
    cases hv
    have f := f.tr f9
    have r := r9
    have e := mm_23 r
    have e30 := mm_30 r
    have e32 := mm_32 r
    have e34 := mm_34 r
    have e36 := mm_36 r
    have e41 := mm_41 r
    have e43 := mm_43 r
    exact w_ret (by simp only [xi_154_69, q_rti, q_rtj, q_rtd, q_rta, q_rtv, q_rt1, q_rt0, Nat.reduceAdd, Option.toList_some, Option.toList_none, List.cons_append, List.nil_append] <;> rfl) ⟨rfl, _, r, f, by rw [t9], fun k hk => ⟨by rw [t9]; exact (hT k hk).1, by rw [t9]; show mrs L ph g (sN P 2 (sN P 3 o)) k = _; rw [mrs_at _ _ _ _ _ hk]; exact mes_cg k (fun j hj => hT j (by omega))⟩⟩
  | succ j ih =>
    intro i hi L g ph M r f hT
    have e := mm_23 r
    have hge : ¬ Int32.ofNat (sN P 2 (sN P 3 o)) ≤ Int32.ofNat i := by rw [ix_le (by omega) (by omega)]; omega
    have i0 : ¬ Int32.ofNat (i) < 0 := ix_0 (by omega)
    have i1 : (Int32.ofNat (i)).toNatClampNeg = i := ix_n (by omega)
    have i2 : ¬ 6 ≤ i := by omega
    have q0 : ¬ Int32.ofNat (6 * sN P 3 o + i) < 0 := ix_0 (by omega)
    have q1 : (Int32.ofNat (6 * sN P 3 o + i)).toNatClampNeg = 6 * sN P 3 o + i := ix_n (by omega)
    have q2 : ¬ 120 ≤ 6 * sN P 3 o + i := by omega
    have q3 : ¬ Int32.ofNat (6 * o + i) < 0 := ix_0 (by omega)
    have q4 : (Int32.ofNat (6 * o + i)).toNatClampNeg = 6 * o + i := ix_n (by omega)
    have q5 : ¬ 600 ≤ 6 * o + i := by omega
    have e30 := mm_30 r
    have e32 := mm_32 r
    have e34 := mm_34 r
    have e36 := mm_36 r
    have e41 := mm_41 r
    have e43 := mm_43 r
    refine w_go 18 (by simp only [xi_154_9, xi_154_10, xi_154_11, xi_154_14, xi_154_15, xi_154_16, xi_154_19, xi_154_20, xi_154_23, xi_154_24, xi_154_25, xi_154_28, xi_154_30, xi_154_31, xi_154_32, xi_154_33, xi_154_34, xi_154_35, hge, ix_m, ix_a, q0, q1, q2, i0, i1, i2, p0, p1, p2, o0, o1, o2, e, e30, e32, e34, e36, e41, e43, mf_0, mf_1, mf_2, mf_3, mf_4, mf_5, mf_6, mf_7, mf_8, mf_9, mf_10, mf_11, mf_12, mf_13, mf_14, mf_15, mf_16, mf_17, mf_18, mf_19, mf_20, mf_21, mf_22, mf_23, mf_24, mf_25, mf_26, mf_27, mf_28, mf_29, mf_30, mf_31, mf_32, mf_33, mf_34, mf_35, mf_36, mf_37, mf_38, mf_39, mf_40, mf_41, mf_42, mf_43, tf_1, sn_un, sn_ui, sn_uj, sn_uN, sn_uI, sn_uJ, si_un, si_ui, si_uj, si_uN, si_uI, si_uJ, sj_un, sj_ui, sj_uj, sj_uN, sj_uI, sj_uJ, sN_un, sN_ui, sN_uj, sN_uN, sN_uI, sN_uJ, sI_un, sI_ui, sI_uj, sI_uN, sI_uI, sI_uJ, sJ_un, sJ_ui, sJ_uj, sJ_uN, sJ_uI, sJ_uJ, go_0, go_s, bd_nx, q_ldi, q_ldj, q_ldd, q_lda, q_ldn, q_ldr, q_sta, q_stn, q_str, q_lg, q_i1, q_i2, q_j1, q_j2, q_ij, q_d1, q_d2, q_a1, q_ia, q_via, q_set, q_new, q_pay, q_gf, q_pf, q_oki, q_okj, q_okd, q_oka, q_okn, q_ai, q_aj, q_ad, q_aa, q_len, q_wi, q_wj, q_wd, q_wa, q_s1, q_s2, q_args0, q_args, q_ci, q_cj, q_cd, q_cr, q_cn, q_cx, am_inc, am_dup, am_dup2, am_nul, am_put, am_aln, am_ial, am_aas, Option.bind_some, List.filter_cons, List.filter_nil, ↓reduceIte, Nat.reduceEqDiff, Nat.reduceAdd, Nat.reduceBEq, Nat.reduceLT, List.getElem?_cons_zero, List.getElem?_cons_succ, List.set_cons_zero, List.set_cons_succ, List.length_cons, List.length_nil, Bool.not_true, Bool.not_false, Bool.and_true, Bool.true_and, Bool.false_and, Bool.and_false, and_true, true_and, and_self, Nat.one_ne_zero, Nat.zero_ne_one, Bool.false_eq_true, beq_self_eq_true, reduceCtorEq, Nat.zero_add, or_self, or_false, false_or, or_true, true_or, q_ok21, q_ok20, not_true_eq_false, not_false_eq_true, q_clt, q_cge, q_ceq, q_cgt, q_cle, Option.toList_some, Option.toList_none, List.cons_append, List.nil_append, q_obg, q_obp, q_up, Nat.reduceLeDiff]; rfl) ?_
    refine mgo (Q := fun M9 => am_W _ _ _ _ _ _ M9 _) (mwa_30 r _ _) (f.tr (mFr.set (by decide) (by decide))) (fun M r f => ?_)
    have e := mm_23 r
    have e30 := mm_30 r
    have e32 := mm_32 r
    have e34 := mm_34 r
    have e36 := mm_36 r
    have e41 := mm_41 r
    have e43 := mm_43 r
    refine w_go 12 (by simp only [xi_154_36, xi_154_37, xi_154_40, xi_154_41, xi_154_42, xi_154_45, xi_154_47, xi_154_48, xi_154_49, xi_154_50, xi_154_51, xi_154_52, ix_m, ix_a, q3, q4, q5, i0, i1, i2, p0, p1, p2, o0, o1, o2, e, e30, e32, e34, e36, e41, e43, mf_0, mf_1, mf_2, mf_3, mf_4, mf_5, mf_6, mf_7, mf_8, mf_9, mf_10, mf_11, mf_12, mf_13, mf_14, mf_15, mf_16, mf_17, mf_18, mf_19, mf_20, mf_21, mf_22, mf_23, mf_24, mf_25, mf_26, mf_27, mf_28, mf_29, mf_30, mf_31, mf_32, mf_33, mf_34, mf_35, mf_36, mf_37, mf_38, mf_39, mf_40, mf_41, mf_42, mf_43, tf_1, sn_un, sn_ui, sn_uj, sn_uN, sn_uI, sn_uJ, si_un, si_ui, si_uj, si_uN, si_uI, si_uJ, sj_un, sj_ui, sj_uj, sj_uN, sj_uI, sj_uJ, sN_un, sN_ui, sN_uj, sN_uN, sN_uI, sN_uJ, sI_un, sI_ui, sI_uj, sI_uN, sI_uI, sI_uJ, sJ_un, sJ_ui, sJ_uj, sJ_uN, sJ_uI, sJ_uJ, go_0, go_s, bd_nx, q_ldi, q_ldj, q_ldd, q_lda, q_ldn, q_ldr, q_sta, q_stn, q_str, q_lg, q_i1, q_i2, q_j1, q_j2, q_ij, q_d1, q_d2, q_a1, q_ia, q_via, q_set, q_new, q_pay, q_gf, q_pf, q_oki, q_okj, q_okd, q_oka, q_okn, q_ai, q_aj, q_ad, q_aa, q_len, q_wi, q_wj, q_wd, q_wa, q_s1, q_s2, q_args0, q_args, q_ci, q_cj, q_cd, q_cr, q_cn, q_cx, am_inc, am_dup, am_dup2, am_nul, am_put, am_aln, am_ial, am_aas, Option.bind_some, List.filter_cons, List.filter_nil, ↓reduceIte, Nat.reduceEqDiff, Nat.reduceAdd, Nat.reduceBEq, Nat.reduceLT, List.getElem?_cons_zero, List.getElem?_cons_succ, List.set_cons_zero, List.set_cons_succ, List.length_cons, List.length_nil, Bool.not_true, Bool.not_false, Bool.and_true, Bool.true_and, Bool.false_and, Bool.and_false, and_true, true_and, and_self, Nat.one_ne_zero, Nat.zero_ne_one, Bool.false_eq_true, beq_self_eq_true, reduceCtorEq, Nat.zero_add, or_self, or_false, false_or, or_true, true_or, q_ok21, q_ok20, not_true_eq_false, not_false_eq_true, q_clt, q_cge, q_ceq, q_cgt, q_cle, Option.toList_some, Option.toList_none, List.cons_append, List.nil_append, q_obg, q_obp, q_up, Nat.reduceLeDiff]; rfl) ?_
    refine mgo (Q := fun M9 => am_W _ _ _ _ _ _ M9 _) (mwa_32 r _ _) (f.tr (mFr.set (by decide) (by decide))) (fun M r f => ?_)
    have e := mm_23 r
    have e30 := mm_30 r
    have e32 := mm_32 r
    have e34 := mm_34 r
    have e36 := mm_36 r
    have e41 := mm_41 r
    have e43 := mm_43 r
    refine w_go 2 (by simp only [xi_154_53, xi_154_56, ix_s, e, e30, e32, e34, e36, e41, e43, mf_0, mf_1, mf_2, mf_3, mf_4, mf_5, mf_6, mf_7, mf_8, mf_9, mf_10, mf_11, mf_12, mf_13, mf_14, mf_15, mf_16, mf_17, mf_18, mf_19, mf_20, mf_21, mf_22, mf_23, mf_24, mf_25, mf_26, mf_27, mf_28, mf_29, mf_30, mf_31, mf_32, mf_33, mf_34, mf_35, mf_36, mf_37, mf_38, mf_39, mf_40, mf_41, mf_42, mf_43, tf_1, sn_un, sn_ui, sn_uj, sn_uN, sn_uI, sn_uJ, si_un, si_ui, si_uj, si_uN, si_uI, si_uJ, sj_un, sj_ui, sj_uj, sj_uN, sj_uI, sj_uJ, sN_un, sN_ui, sN_uj, sN_uN, sN_uI, sN_uJ, sI_un, sI_ui, sI_uj, sI_uN, sI_uI, sI_uJ, sJ_un, sJ_ui, sJ_uj, sJ_uN, sJ_uI, sJ_uJ, go_0, go_s, bd_nx, q_ldi, q_ldj, q_ldd, q_lda, q_ldn, q_ldr, q_sta, q_stn, q_str, q_lg, q_i1, q_i2, q_j1, q_j2, q_ij, q_d1, q_d2, q_a1, q_ia, q_via, q_set, q_new, q_pay, q_gf, q_pf, q_oki, q_okj, q_okd, q_oka, q_okn, q_ai, q_aj, q_ad, q_aa, q_len, q_wi, q_wj, q_wd, q_wa, q_s1, q_s2, q_args0, q_args, q_ci, q_cj, q_cd, q_cr, q_cn, q_cx, am_inc, am_dup, am_dup2, am_nul, am_put, am_aln, am_ial, am_aas, Option.bind_some, List.filter_cons, List.filter_nil, ↓reduceIte, Nat.reduceEqDiff, Nat.reduceAdd, Nat.reduceBEq, Nat.reduceLT, List.getElem?_cons_zero, List.getElem?_cons_succ, List.set_cons_zero, List.set_cons_succ, List.length_cons, List.length_nil, Bool.not_true, Bool.not_false, Bool.and_true, Bool.true_and, Bool.false_and, Bool.and_false, and_true, true_and, and_self, Nat.one_ne_zero, Nat.zero_ne_one, Bool.false_eq_true, beq_self_eq_true, reduceCtorEq, Nat.zero_add, or_self, or_false, false_or, or_true, true_or, q_ok21, q_ok20, not_true_eq_false, not_false_eq_true, q_clt, q_cge, q_ceq, q_cgt, q_cle, Option.toList_some, Option.toList_none, List.cons_append, List.nil_append, q_obg, q_obp, q_up, Nat.reduceLeDiff]; rfl) ?_
    refine ih (i + 1) (by omega) _ _ _ _ r f (fun k hk => ?_)
    show va_up L i (sJ P 3 (6 * sN P 3 o + i)) k = mW P o k ∧ va_up ph i (sI P 4 (6 * o + i)) k = _
    unfold va_up
    by_cases hki : k = i
    · rw [if_pos hki, if_pos hki, hki]
      exact ⟨rfl, rfl⟩
    · rw [if_neg hki, if_neg hki]
      exact hT k (by omega)
theorem m_154 {P : am_S} {T : am_T} {M : am_M} (d : Nat) (r : mRep P T M) {o : Nat} (ho : o < 100) (hp : sN P 3 o < 20) (h6 : sN P 2 (sN P 3 o) ≤ 6) (hd : ∀ k, k < sN P 2 (sN P 3 o) → ¬ 2 * mW P o k = 0) : am_WC (d + 4) 154 [.ref 23, .int (Int32.ofNat o)] M (mPy P o T M) := by
  have f := mFr.rf M
  have e := mm_23 r
  have o0 : ¬ Int32.ofNat (o) < 0 := ix_0 (by omega)
  have o1 : (Int32.ofNat (o)).toNatClampNeg = o := ix_n (by omega)
  have o2 : ¬ 100 ≤ o := by omega
  show am_W _ _ _ _ (lv_args 0 _) _ _ _
  have e30 := mm_30 r
  have e32 := mm_32 r
  have e34 := mm_34 r
  have e36 := mm_36 r
  have e41 := mm_41 r
  have e43 := mm_43 r
  refine w_go 7 (by simp only [xi_154_0, xi_154_1, xi_154_4, xi_154_5, xi_154_6, xi_154_7, xi_154_8, o0, o1, o2, e, e30, e32, e34, e36, e41, e43, mf_0, mf_1, mf_2, mf_3, mf_4, mf_5, mf_6, mf_7, mf_8, mf_9, mf_10, mf_11, mf_12, mf_13, mf_14, mf_15, mf_16, mf_17, mf_18, mf_19, mf_20, mf_21, mf_22, mf_23, mf_24, mf_25, mf_26, mf_27, mf_28, mf_29, mf_30, mf_31, mf_32, mf_33, mf_34, mf_35, mf_36, mf_37, mf_38, mf_39, mf_40, mf_41, mf_42, mf_43, tf_1, sn_un, sn_ui, sn_uj, sn_uN, sn_uI, sn_uJ, si_un, si_ui, si_uj, si_uN, si_uI, si_uJ, sj_un, sj_ui, sj_uj, sj_uN, sj_uI, sj_uJ, sN_un, sN_ui, sN_uj, sN_uN, sN_uI, sN_uJ, sI_un, sI_ui, sI_uj, sI_uN, sI_uI, sI_uJ, sJ_un, sJ_ui, sJ_uj, sJ_uN, sJ_uI, sJ_uJ, go_0, go_s, bd_nx, q_ldi, q_ldj, q_ldd, q_lda, q_ldn, q_ldr, q_sta, q_stn, q_str, q_lg, q_i1, q_i2, q_j1, q_j2, q_ij, q_d1, q_d2, q_a1, q_ia, q_via, q_set, q_new, q_pay, q_gf, q_pf, q_oki, q_okj, q_okd, q_oka, q_okn, q_ai, q_aj, q_ad, q_aa, q_len, q_wi, q_wj, q_wd, q_wa, q_s1, q_s2, q_args0, q_args, q_ci, q_cj, q_cd, q_cr, q_cn, q_cx, am_inc, am_dup, am_dup2, am_nul, am_put, am_aln, am_ial, am_aas, Option.bind_some, List.filter_cons, List.filter_nil, ↓reduceIte, Nat.reduceEqDiff, Nat.reduceAdd, Nat.reduceBEq, Nat.reduceLT, List.getElem?_cons_zero, List.getElem?_cons_succ, List.set_cons_zero, List.set_cons_succ, List.length_cons, List.length_nil, Bool.not_true, Bool.not_false, Bool.and_true, Bool.true_and, Bool.false_and, Bool.and_false, and_true, true_and, and_self, Nat.one_ne_zero, Nat.zero_ne_one, Bool.false_eq_true, beq_self_eq_true, reduceCtorEq, Nat.zero_add, or_self, or_false, false_or, or_true, true_or, q_ok21, q_ok20, not_true_eq_false, not_false_eq_true, q_clt, q_cge, q_ceq, q_cgt, q_cle, Option.toList_some, Option.toList_none, List.cons_append, List.nil_append, q_obg, q_obp, q_up, Nat.reduceLeDiff]; rfl) ?_
  exact ml_154 (t := T.1) rfl ho hp h6 hd (sN P 2 (sN P 3 o)) 0 (Nat.zero_add _) T.2.1 T.2.2.1 T.2.2.2 _ r f (fun k hk => absurd hk (Nat.not_lt_zero _))
