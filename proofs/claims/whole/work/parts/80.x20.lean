/-! the law's frame -/
theorem lg_fil (p : Nat × Value → Bool) {l : am_L} {j : Nat} {w : Value} (h : am_lg l j = some w) (hp : ∀ q : Nat × Value, q.1 = j → q.2 = w → p q = true) : am_lg (l.filter p) j = some w := by
  induction l with
  | nil => cases h
  | cons q l ih =>
    rw [am_lg] at h
    by_cases hq : q.1 = j
    · rw [if_pos hq] at h
      have hw : q.2 = w := by simpa using h
      rw [List.filter_cons, if_pos (hp q hq hw), am_lg, if_pos hq, hw]
    · rw [if_neg hq] at h
      rw [List.filter_cons]
      split
      · rw [am_lg, if_neg hq]; exact ih h
      · exact ih h
theorem lg_s1 {l : am_L} {k j : Nat} {v w : Value} (h : am_lg l j = some w) (hjk : ¬ j = k) (hc : w.category = 1) : am_lg (am_s1 l k v) j = some w := by
  rw [am_s1, am_lg, if_neg (fun z => hjk z.symm)]
  exact lg_fil _ h (fun q h1 h2 => by rw [h1, h2, hc]; simp [hjk])
theorem lg_s1i {l : am_L} {k : Nat} {v : Value} : am_lg (am_s1 l k v) k = some v := by rw [am_s1, am_lg, if_pos rfl]
theorem lg_s2 {l : am_L} {k j : Nat} {v w : Value} (h : am_lg l j = some w) (hjk : ¬ j = k) (hjk2 : ¬ j = k + 1) (hc : w.category = 1) : am_lg (am_s2 l k v) j = some w := by
  rw [am_s2, am_lg, if_neg (fun z => hjk z.symm)]
  exact lg_fil _ h (fun q h1 h2 => by rw [h1, h2, hc]; simp [hjk, hjk2])
theorem lg_s2i {l : am_L} {k : Nat} {v : Value} : am_lg (am_s2 l k v) k = some v := by rw [am_s2, am_lg, if_pos rfl]
def LL (l : am_L) (i : Nat) : Prop := am_lg l 0 = some (.retAddr 0) ∧ am_lg l 1 = some (.ref 0) ∧ am_lg l 2 = some (.ref 23) ∧ am_lg l 3 = some (.ref 45) ∧ am_lg l 4 = some (.ref 46) ∧ am_lg l 5 = some (.int (Int32.ofNat i))
theorem LL.s1 {l : am_L} {i : Nat} (h : LL l i) {k : Nat} (hk : 6 ≤ k) (v : Value) : LL (am_s1 l k v) i := by
  obtain ⟨h0, h1, h2, h3, h4, h5⟩ := h
  exact ⟨lg_s1 h0 (by omega) rfl, lg_s1 h1 (by omega) rfl, lg_s1 h2 (by omega) rfl, lg_s1 h3 (by omega) rfl, lg_s1 h4 (by omega) rfl, lg_s1 h5 (by omega) rfl⟩
theorem LL.s2 {l : am_L} {i : Nat} (h : LL l i) {k : Nat} (hk : 6 ≤ k) (v : Value) : LL (am_s2 l k v) i := by
  obtain ⟨h0, h1, h2, h3, h4, h5⟩ := h
  exact ⟨lg_s2 h0 (by omega) (by omega) rfl, lg_s2 h1 (by omega) (by omega) rfl, lg_s2 h2 (by omega) (by omega) rfl, lg_s2 h3 (by omega) (by omega) rfl, lg_s2 h4 (by omega) (by omega) rfl, lg_s2 h5 (by omega) (by omega) rfl⟩
theorem LL.nx {l : am_L} {i : Nat} (h : LL l i) (j : Nat) : LL (am_s1 l 5 (.int (Int32.ofNat j))) j := by
  obtain ⟨h0, h1, h2, h3, h4, h5⟩ := h
  exact ⟨lg_s1 h0 (by omega) rfl, lg_s1 h1 (by omega) rfl, lg_s1 h2 (by omega) rfl, lg_s1 h3 (by omega) rfl, lg_s1 h4 (by omega) rfl, lg_s1i⟩
theorem lgen {Q R : am_L → Prop} {l : am_L} (h : R l) (k : ∀ l1, R l1 → Q l1) : Q l := k l h
theorem law_ix {i L : Nat} (h : i + 4 ≤ L) (hL : L ≤ 2048) : (Int32.ofNat i + 1 = Int32.ofNat (i + 1) ∧ Int32.ofNat i + 2 = Int32.ofNat (i + 2) ∧ Int32.ofNat i + 3 = Int32.ofNat (i + 3)) ∧ (¬ Int32.ofNat (i + 1) < 0 ∧ (Int32.ofNat (i + 1)).toNatClampNeg = i + 1 ∧ ¬ L ≤ i + 1) ∧ (¬ Int32.ofNat (i + 2) < 0 ∧ (Int32.ofNat (i + 2)).toNatClampNeg = i + 2 ∧ ¬ L ≤ i + 2) ∧ (¬ Int32.ofNat (i + 3) < 0 ∧ (Int32.ofNat (i + 3)).toNatClampNeg = i + 3 ∧ ¬ L ≤ i + 3) :=
  ⟨⟨by rw [Int32.ofNat_add]; rfl, by rw [Int32.ofNat_add]; rfl, by rw [Int32.ofNat_add]; rfl⟩, ⟨ix_0 (by omega), ix_n (by omega), by omega⟩, ⟨ix_0 (by omega), ix_n (by omega), by omega⟩, ⟨ix_0 (by omega), ix_n (by omega), by omega⟩⟩
def lSt (P : am_S) (n : Nat) (M : am_M) : Prop := (∃ G, xRep P G M) ∧ (∃ T, mRep P T M) ∧ (∃ w, am_f M 45 = .inl (1, 1, .inr (.inl w))) ∧ (∃ w, am_f M 46 = .inl (3, 1, .inr (.inr (.inr (.inl w))))) ∧ M.2.1 ≤ 100 + 12 * n ∧ M.2.2.1 ≤ 3000 + 120 * n
theorem xRep.mfr {P : am_S} {G : xG} {M M' : am_M} (r : xRep P G M) (f : mFr M M') : xRep P G M' := by
  obtain ⟨f1, -, -, f4⟩ := f
  have hf : ∀ b, b = 9 ∨ xIn M b → am_f M' b = am_f M b := fun b hb => f4 b (by rcases hb with rfl | ⟨hb, -⟩ <;> omega)
  exact r.fix ⟨rfl, rfl, fun i hi => rfl, fun i hi => rfl, fun i hi => rfl⟩ rfl (Nat.le_of_eq f1.symm) hf (fun b h3 h4 => by rw [f4 b (by omega)]; exact r.2.1 b h3 h4) r.2.2.1 (r.2.2.2.2.1.keep rfl rfl rfl (Nat.le_of_eq f1.symm) hf)
theorem mRep.xfr {P : am_S} {T : am_T} {M M' : am_M} (m : mRep P T M) (h1 : M.1 ≤ M'.1) (h2 : ∀ a, 23 ≤ a → a ≤ 44 → am_f M' a = am_f M a) : mRep P T M' := ⟨Nat.le_trans m.1 h1, fun a h3 h4 => (h2 a h3 h4).trans (m.2 a h3 h4)⟩
theorem law_hs : am_hs 232 = [] := rfl
theorem xi_232_44 {xs : Option (Nat × (Nat → Int32))} {l : am_L} {st : List Value} {M : am_M} : am_do xs 232 44 l st M = am_i1 st fun x r => if x.toInt < 0 ∨ 51 < x.toInt then am_sw 44 3045 l r M else match (#[224, 304, 372, 385, 441, 454, 468, 481, 536, 592, 691, 747, 835, 879, 892, 947, 1003, 1028, 1084, 1139, 1194, 1250, 1294, 1338, 1382, 1437, 1450, 1506, 1562, 1618, 1686, 1741, 1754, 1841, 1908, 1963, 2030, 2105, 2173, 2228, 2283, 2370, 2426, 2503, 2580, 2636, 2691, 2768, 2845, 2922, 2977, 3032] : Array Int)[(x.toInt - 0).toNat]? with
  | some off => am_sw 44 off l r M
  | none => none := rfl
theorem law_sw {d : Nat} {xs : Option (Nat × (Nat → Int32))} {l : am_L} {M : am_M} {x : Int32} {Post : (Option Value ⊕ Nat) → am_M → Prop} (h : ∀ k, k < 52 → x = Int32.ofNat k → am_W d xs 232 ([268, 348, 416, 429, 485, 498, 512, 525, 580, 636, 735, 791, 879, 923, 936, 991, 1047, 1072, 1128, 1183, 1238, 1294, 1338, 1382, 1426, 1481, 1494, 1550, 1606, 1662, 1730, 1785, 1798, 1885, 1952, 2007, 2074, 2149, 2217, 2272, 2327, 2414, 2470, 2547, 2624, 2680, 2735, 2812, 2889, 2966, 3021, 3076].getD k 3089) l [] M Post) (hd : am_W d xs 232 3089 l [] M Post) : am_W d xs 232 44 l [.int x] M Post := by
  by_cases hx : x.toInt < 0 ∨ 51 < x.toInt
  · refine w_go 1 ?_ hd
    simp only [go_s, go_0, xi_232_44, q_i1, if_pos hx]
    rfl
  · have hx2 : x = Int32.ofNat x.toInt.toNat := by
      rw [← Int32.toInt_inj, Int32.toInt_ofNat_of_lt (by omega)]
      omega
    have hk : x.toInt.toNat < 52 := by omega
    have hg := h _ hk hx2
    have hi : x.toInt - 0 = x.toInt := by omega
    refine w_go 1 ?_ hg
    simp only [go_s, go_0, xi_232_44, q_i1, if_neg hx, hi]
    generalize x.toInt.toNat = k at hk
    match k, hk with
    | 0, _ => rfl
    | 1, _ => rfl
    | 2, _ => rfl
    | 3, _ => rfl
    | 4, _ => rfl
    | 5, _ => rfl
    | 6, _ => rfl
    | 7, _ => rfl
    | 8, _ => rfl
    | 9, _ => rfl
    | 10, _ => rfl
    | 11, _ => rfl
    | 12, _ => rfl
    | 13, _ => rfl
    | 14, _ => rfl
    | 15, _ => rfl
    | 16, _ => rfl
    | 17, _ => rfl
    | 18, _ => rfl
    | 19, _ => rfl
    | 20, _ => rfl
    | 21, _ => rfl
    | 22, _ => rfl
    | 23, _ => rfl
    | 24, _ => rfl
    | 25, _ => rfl
    | 26, _ => rfl
    | 27, _ => rfl
    | 28, _ => rfl
    | 29, _ => rfl
    | 30, _ => rfl
    | 31, _ => rfl
    | 32, _ => rfl
    | 33, _ => rfl
    | 34, _ => rfl
    | 35, _ => rfl
    | 36, _ => rfl
    | 37, _ => rfl
    | 38, _ => rfl
    | 39, _ => rfl
    | 40, _ => rfl
    | 41, _ => rfl
    | 42, _ => rfl
    | 43, _ => rfl
    | 44, _ => rfl
    | 45, _ => rfl
    | 46, _ => rfl
    | 47, _ => rfl
    | 48, _ => rfl
    | 49, _ => rfl
    | 50, _ => rfl
    | 51, _ => rfl
    | k + 52, h => omega
