/-! rules for runs: objects, updates, comparisons -/
theorem q_ok21 : am_ok 2 (.int 1) = true := rfl
theorem q_ok20 : am_ok 2 (.int 0) = true := rfl
def ob (c n : Nat) (f : Nat → Value) : va_E := .inr (c, (List.range n).map f)
theorem q_obg (c n a b : Nat) (f : Nat → Value) : am_gf (ob c n f) a b = if c = a then (if b < n then some (f b) else none) else none := by
  unfold am_gf ob
  simp only
  split
  · by_cases h : b < n
    · simp [h]
    · simp [h]
  · rfl
theorem ob_set (n b : Nat) (f : Nat → Value) (v : Value) : ((List.range n).map f).set b v = (List.range n).map (va_up f b v) := by
  apply List.ext_getElem?
  intro i
  by_cases hb : b = i
  · subst hb
    by_cases h : b < n
    · rw [List.getElem?_set_self (by simpa using h)]
      simp [h, va_up]
    · rw [List.getElem?_eq_none (by simp; omega), List.getElem?_eq_none (by simp; omega)]
  · rw [List.getElem?_set_ne hb]
    have hb' : ¬ i = b := fun z => hb z.symm
    by_cases h : i < n
    · simp [h, va_up, hb']
    · rw [List.getElem?_eq_none (by simp; omega), List.getElem?_eq_none (by simp; omega)]
theorem q_obp (c n a b k : Nat) (f : Nat → Value) (v : Value) : am_pf (ob c n f) a b k v = if c = a ∧ b < n ∧ am_ok k v = true then some (ob c n (va_up f b v)) else none := by
  unfold am_pf ob
  simp only [List.length_map, List.length_range, ob_set]
theorem q_obr (c n k : Nat) (f : Nat → Value) : am_rcv (ob c n f) (.retAddr k) = (c == k) := rfl
theorem q_obw (t' n : Nat) (f : Nat → Option Nat) (i : Int32) (x ci m : Nat) (g : Nat → Value) : am_wa (.inl (t', n, .inr (.inr (.inr (.inr f))))) i x (ob ci m g) = if 4 ≤ t' ∧ t' ≤ 6 ∧ ci = am_elt t' ∧ ¬ (i < 0 ∨ n ≤ i.toNatClampNeg) then some (.inl (t', n, .inr (.inr (.inr (.inr (va_up f i.toNatClampNeg (some x))))))) else none := rfl
theorem q_up {α : Type} (f : Nat → α) (a b : Nat) (x : α) : va_up f a x b = if b = a then x else f b := rfl
theorem cmp3 (x y : Int64) : (y < x ∧ lg_cmp x y = 1) ∨ (x = y ∧ lg_cmp x y = 0) ∨ (x < y ∧ lg_cmp x y = -1) := by
  unfold lg_cmp
  by_cases h : x > y
  · exact Or.inl ⟨h, if_pos h⟩
  · by_cases h2 : x = y
    · exact Or.inr (Or.inl ⟨h2, by rw [if_neg h, if_pos h2]⟩)
    · refine Or.inr (Or.inr ⟨?_, by rw [if_neg h, if_neg h2]⟩)
      simp only [gt_iff_lt, Int64.lt_iff_toInt_lt, ← Int64.toInt_inj] at *
      omega
theorem q_clt (x y : Int64) : (lg_cmp x y < 0) = (x < y) := by
  rcases cmp3 x y with ⟨h, e⟩ | ⟨h, e⟩ | ⟨h, e⟩ <;> rw [e] <;> simp only [Int64.lt_iff_toInt_lt, Int64.le_iff_toInt_le, ← Int64.toInt_inj] at h ⊢ <;> apply propext <;> constructor <;> intro z <;> first | omega | decide | exact absurd z (by decide)
theorem q_cge (x y : Int64) : (0 ≤ lg_cmp x y) = (y ≤ x) := by
  rcases cmp3 x y with ⟨h, e⟩ | ⟨h, e⟩ | ⟨h, e⟩ <;> rw [e] <;> simp only [Int64.lt_iff_toInt_lt, Int64.le_iff_toInt_le, ← Int64.toInt_inj] at h ⊢ <;> apply propext <;> constructor <;> intro z <;> first | omega | decide | exact absurd z (by decide)
theorem q_ceq (x y : Int64) : (lg_cmp x y = 0) = (x = y) := by
  rcases cmp3 x y with ⟨h, e⟩ | ⟨h, e⟩ | ⟨h, e⟩ <;> rw [e] <;> simp only [Int64.lt_iff_toInt_lt, Int64.le_iff_toInt_le, ← Int64.toInt_inj] at h ⊢ <;> apply propext <;> constructor <;> intro z <;> first | omega | decide | exact absurd z (by decide)
theorem q_cgt (x y : Int64) : (0 < lg_cmp x y) = (y < x) := by
  rcases cmp3 x y with ⟨h, e⟩ | ⟨h, e⟩ | ⟨h, e⟩ <;> rw [e] <;> simp only [Int64.lt_iff_toInt_lt, Int64.le_iff_toInt_le, ← Int64.toInt_inj] at h ⊢ <;> apply propext <;> constructor <;> intro z <;> first | omega | decide | exact absurd z (by decide)
theorem q_cle (x y : Int64) : (lg_cmp x y ≤ 0) = (x ≤ y) := by
  rcases cmp3 x y with ⟨h, e⟩ | ⟨h, e⟩ | ⟨h, e⟩ <;> rw [e] <;> simp only [Int64.lt_iff_toInt_lt, Int64.le_iff_toInt_le, ← Int64.toInt_inj] at h ⊢ <;> apply propext <;> constructor <;> intro z <;> first | omega | decide | exact absurd z (by decide)
/-- an int that is a count -/
theorem ix_n {k : Nat} (h : k < 2147483648) : (Int32.ofNat k).toNatClampNeg = k := by
  simp [Int32.toNatClampNeg, Int32.toInt_ofNat_of_lt h]
theorem ix_0 {k : Nat} (h : k < 2147483648) : ¬ Int32.ofNat k < 0 := by
  rw [Int32.lt_iff_toInt_lt, Int32.toInt_ofNat_of_lt h]
  simp
theorem ix_s (k : Nat) : Int32.ofNat k + 1 = Int32.ofNat (k + 1) := by
  rw [Int32.ofNat_add]; rfl
theorem ix_lt {a b : Nat} (ha : a < 2147483648) (hb : b < 2147483648) : (Int32.ofNat a < Int32.ofNat b) = (a < b) := by
  rw [Int32.lt_iff_toInt_lt, Int32.toInt_ofNat_of_lt ha, Int32.toInt_ofNat_of_lt hb]
  simp
theorem ix_le {a b : Nat} (ha : a < 2147483648) (hb : b < 2147483648) : (Int32.ofNat a ≤ Int32.ofNat b) = (a ≤ b) := by
  rw [Int32.le_iff_toInt_le, Int32.toInt_ofNat_of_lt ha, Int32.toInt_ofNat_of_lt hb]
  simp
theorem ix_eq {a b : Nat} (ha : a < 2147483648) (hb : b < 2147483648) : (Int32.ofNat a = Int32.ofNat b) = (a = b) := by
  rw [← Int32.toInt_inj, Int32.toInt_ofNat_of_lt ha, Int32.toInt_ofNat_of_lt hb]
  exact propext ⟨fun h => by omega, fun h => by omega⟩
/-! runs that end in a post-condition -/
section
variable {d : Nat} {xs : Option (Nat × (Nat → Int32))} {k pc : Nat} {l : am_L} {st : List Value} {M : am_M}
def am_W (d : Nat) (xs : Option (Nat × (Nat → Int32))) (k pc : Nat) (l : am_L) (st : List Value) (M : am_M) (Post : (Option Value ⊕ Nat) → am_M → Prop) : Prop := ∃ (r : Option Value ⊕ Nat) (M' : am_M), am_Ev d xs k pc l st M (r, M') ∧ Post r M'
def am_WC (d k : Nat) (as : List Value) (M : am_M) (Post : (Option Value ⊕ Nat) → am_M → Prop) : Prop := am_W d none k 0 (lv_args 0 as) [] M Post
variable {Post : (Option Value ⊕ Nat) → am_M → Prop}
theorem w_go (j : Nat) {pc' : Nat} {l' : am_L} {st' : List Value} {M' : am_M} (h : am_go xs k j pc l st M = some (pc', l', st', M')) (g : am_W d xs k pc' l' st' M' Post) : am_W d xs k pc l st M Post := by
  obtain ⟨r, M2, h1, h2⟩ := g
  exact ⟨r, M2, ev_go j h h1, h2⟩
theorem w_ret {v : Option Value} (h : am_do xs k pc l st M = some (.inr (.inl v))) (hp : Post (.inl v) M) : am_W d xs k pc l st M Post := ⟨_, _, ev_ret h, hp⟩
theorem w_thr {E : Nat} (h : am_do xs k pc l st M = some (.inr (.inr (.inl E)))) (hp : Post (.inr E) (am_pay M 1 6)) : am_W d xs k pc l st M Post := ⟨_, _, ev_thr h, hp⟩
theorem w_callF {as rest : List Value} {v : Option Value} {M' : am_M} {k' : Nat} (h : am_do xs k pc l st M = some (.inr (.inr (.inr (as, rest))))) (hk : am_to k pc = k') (hwt : am_wt as ≤ am_ml k') (hc : am_Call d k' as M (.inl v, M')) (g : am_W (d + 1) xs k (pc + 3) l (v.toList ++ rest) M' Post) : am_W (d + 1) xs k pc l st M Post := by
  obtain ⟨r, M2, h1, h2⟩ := g
  exact ⟨r, M2, ev_call h hk hwt hc h1, h2⟩
theorem w_call {as rest : List Value} {k' : Nat} {Q : (Option Value ⊕ Nat) → am_M → Prop} (h : am_do xs k pc l st M = some (.inr (.inr (.inr (as, rest))))) (hk : am_to k pc = k') (hwt : am_wt as ≤ am_ml k') (hc : am_WC d k' as M Q) (hx : am_hs k = [])
    (g : ∀ v M', Q (.inl v) M' → am_W (d + 1) xs k (pc + 3) l (v.toList ++ rest) M' Post) (gx : ∀ E M', Q (.inr E) M' → Post (.inr E) M') : am_W (d + 1) xs k pc l st M Post := by
  obtain ⟨r, M2, h1, h2⟩ := hc
  cases r with
  | inl v =>
    obtain ⟨r, M3, h3, h4⟩ := g v M2 h2
    exact ⟨r, M3, ev_call h hk hwt h1 h3, h4⟩
  | inr E => exact ⟨_, _, ev_callx h hk hwt h1 hx, gx E M2 h2⟩
theorem w_callh {as rest : List Value} {k' : Nat} {Q : (Option Value ⊕ Nat) → am_M → Prop} (h : am_do xs k pc l st M = some (.inr (.inr (.inr (as, rest))))) (hk : am_to k pc = k') (hwt : am_wt as ≤ am_ml k') (hc : am_WC d k' as M Q)
    (g : ∀ v M', Q (.inl v) M' → am_W (d + 1) xs k (pc + 3) l (v.toList ++ rest) M' Post) (gx : ∀ E M', Q (.inr E) M' → ∃ p, am_hd k pc E = some p ∧ am_W (d + 1) xs k p l [.float 0] M' Post) : am_W (d + 1) xs k pc l st M Post := by
  obtain ⟨r, M2, h1, h2⟩ := hc
  cases r with
  | inl v =>
    obtain ⟨r, M3, h3, h4⟩ := g v M2 h2
    exact ⟨r, M3, ev_call h hk hwt h1 h3, h4⟩
  | inr E =>
    obtain ⟨p, hp, r, M3, h3, h4⟩ := gx E M2 h2
    exact ⟨r, M3, ev_callh h hk hwt h1 hp h3, h4⟩
theorem am_W.mono {Post' : (Option Value ⊕ Nat) → am_M → Prop} (h : am_W d xs k pc l st M Post) (g : ∀ r M', Post r M' → Post' r M') : am_W d xs k pc l st M Post' := by
  obtain ⟨r, M2, h1, h2⟩ := h
  exact ⟨r, M2, h1, g _ _ h2⟩
theorem am_W.deep {d' : Nat} (h : am_W d xs k pc l st M Post) (hd : d ≤ d') : am_W d' xs k pc l st M Post := by
  obtain ⟨r, M2, h1, h2⟩ := h
  exact ⟨r, M2, h1.deep hd, h2⟩
theorem am_WC.of {as : List Value} {r : Option Value ⊕ Nat} {M' : am_M} (h : am_Call d k as M (r, M')) : am_WC d k as M (fun r2 M2 => r2 = r ∧ M2 = M') := ⟨r, M', h, rfl, rfl⟩
end
