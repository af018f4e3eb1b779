/-! runs of the small machine, with steps enough -/
theorem am_mono {n : Nat} : ∀ {m d xs k pc l st M r}, am_run n d xs k pc l st M = some r → n ≤ m → am_run m d xs k pc l st M = some r := by
  induction n with
  | zero => intro m d xs k pc l st M r h _; simp [am_run] at h
  | succ n ih =>
    intro m d xs k pc l st M r h hm
    obtain ⟨m, rfl⟩ : ∃ j, m = j + 1 := ⟨m - 1, by omega⟩
    have hm' : n ≤ m := by omega
    cases hq : am_at k pc with
    | none => simp [am_run, hq] at h
    | some q =>
      cases hs : am_step xs q.2.1 q.2.2.2.1 q.2.2.2.2.1 q.2.2.2.2.2.1 q.2.2.2.2.2.2.2.2 pc l st M with
      | none => simp [am_run, hq, hs] at h
      | some o =>
        match o, hs with
        | .inl c, hs =>
          simp only [am_run, hq, hs] at h ⊢
          exact ih h hm'
        | .inr (.inl v), hs =>
          simp only [am_run, hq, hs] at h ⊢
          exact h
        | .inr (.inr (.inl E)), hs =>
          simp only [am_run, hq, hs] at h ⊢
          exact h
        | .inr (.inr (.inr (as, rest))), hs =>
          simp only [am_run, hq, hs] at h ⊢
          cases d with
          | zero => simp at h
          | succ d' =>
            simp only at h ⊢
            split at h
            case isFalse => cases h
            rename_i hwt
            rw [if_pos hwt]
            cases hw : am_run n d' none q.2.2.2.2.1 0 (lv_args 0 as) [] M with
            | none => simp [hw] at h
            | some o2 =>
              rw [ih hw hm']
              simp only [hw] at h
              match o2, hw, h with
              | (.inl w, M'), hw, h =>
                simp only at h ⊢
                exact ih h hm'
              | (.inr E, M'), hw, h =>
                simp only at h ⊢
                cases hh : am_hd k pc E with
                | none =>
                  simp only [hh] at h ⊢
                  exact h
                | some p =>
                  simp only [hh] at h ⊢
                  exact ih h hm'
theorem am_deep {n : Nat} : ∀ {d xs k pc l st M r}, am_run n d xs k pc l st M = some r → am_run n (d + 1) xs k pc l st M = some r := by
  induction n with
  | zero => intro d xs k pc l st M r h; simp [am_run] at h
  | succ n ih =>
    intro d xs k pc l st M r h
    cases hq : am_at k pc with
    | none => simp [am_run, hq] at h
    | some q =>
      cases hs : am_step xs q.2.1 q.2.2.2.1 q.2.2.2.2.1 q.2.2.2.2.2.1 q.2.2.2.2.2.2.2.2 pc l st M with
      | none => simp [am_run, hq, hs] at h
      | some o =>
        match o, hs with
        | .inl c, hs =>
          simp only [am_run, hq, hs] at h ⊢
          exact ih h
        | .inr (.inl v), hs =>
          simp only [am_run, hq, hs] at h ⊢
          exact h
        | .inr (.inr (.inl E)), hs =>
          simp only [am_run, hq, hs] at h ⊢
          exact h
        | .inr (.inr (.inr (as, rest))), hs =>
          simp only [am_run, hq, hs] at h ⊢
          cases d with
          | zero => simp at h
          | succ d' =>
            simp only at h ⊢
            split at h
            case isFalse => cases h
            rename_i hwt
            rw [if_pos hwt]
            cases hw : am_run n d' none q.2.2.2.2.1 0 (lv_args 0 as) [] M with
            | none => simp [hw] at h
            | some o2 =>
              rw [ih hw]
              simp only [hw] at h
              match o2, hw, h with
              | (.inl w, M'), hw, h =>
                simp only at h ⊢
                exact ih h
              | (.inr E, M'), hw, h =>
                simp only at h ⊢
                cases hh : am_hd k pc E with
                | none =>
                  simp only [hh] at h ⊢
                  exact h
                | some p =>
                  simp only [hh] at h ⊢
                  exact ih h
/-- from here the method ends with r -/
def am_Ev (d : Nat) (xs : Option (Nat × (Nat → Int32))) (k pc : Nat) (l : am_L) (st : List Value) (M : am_M) (r : am_R) : Prop := ∃ n, am_run n d xs k pc l st M = some r
/-- the call of method k -/
def am_Call (d k : Nat) (as : List Value) (M : am_M) (r : am_R) : Prop := am_Ev d none k 0 (lv_args 0 as) [] M r
theorem am_Ev.deep {d d' : Nat} {xs : Option (Nat × (Nat → Int32))} {k pc : Nat} {l : am_L} {st : List Value} {M : am_M} {r : am_R} (h : am_Ev d xs k pc l st M r) (hd : d ≤ d') : am_Ev d' xs k pc l st M r := by
  obtain ⟨n, h⟩ := h
  obtain ⟨j, rfl⟩ : ∃ j, d' = d + j := ⟨d' - d, by omega⟩
  clear hd
  refine ⟨n, ?_⟩
  induction j with
  | zero => exact h
  | succ j ih => exact am_deep ih
theorem am_Call.deep {d d' k : Nat} {as : List Value} {M : am_M} {r : am_R} (h : am_Call d k as M r) (hd : d ≤ d') : am_Call d' k as M r := am_Ev.deep h hd
section
variable {d : Nat} {xs : Option (Nat × (Nat → Int32))} {k pc : Nat} {l : am_L} {st : List Value} {M : am_M} {r : am_R}
/-- one step at (k, pc) -/
noncomputable def am_do (xs : Option (Nat × (Nat → Int32))) (k pc : Nat) (l : am_L) (st : List Value) (M : am_M) : Option am_O :=
  (am_at k pc).bind fun q => am_step xs q.2.1 q.2.2.2.1 q.2.2.2.2.1 q.2.2.2.2.2.1 q.2.2.2.2.2.2.2.2 pc l st M
theorem ev_one {pc' : Nat} {l' : am_L} {st' : List Value} {M' : am_M} (h : am_do xs k pc l st M = some (.inl (pc', l', st', M'))) (g : am_Ev d xs k pc' l' st' M' r) : am_Ev d xs k pc l st M r := by
  obtain ⟨n, g⟩ := g
  refine ⟨n + 1, ?_⟩
  unfold am_do at h
  obtain ⟨q, hq, hs⟩ := Option.bind_eq_some_iff.mp h
  simp only [am_run, hq, hs]
  exact g
theorem ev_ret {v : Option Value} (h : am_do xs k pc l st M = some (.inr (.inl v))) : am_Ev d xs k pc l st M (.inl v, M) := by
  refine ⟨1, ?_⟩
  unfold am_do at h
  obtain ⟨q, hq, hs⟩ := Option.bind_eq_some_iff.mp h
  simp only [am_run, hq, hs]
theorem ev_thr {E : Nat} (h : am_do xs k pc l st M = some (.inr (.inr (.inl E)))) : am_Ev d xs k pc l st M (.inr E, am_pay M 1 6) := by
  refine ⟨1, ?_⟩
  unfold am_do at h
  obtain ⟨q, hq, hs⟩ := Option.bind_eq_some_iff.mp h
  simp only [am_run, hq, hs]
/-- the method that is called at (k, pc) -/
noncomputable def am_to (k pc : Nat) : Nat := ((am_at k pc).map fun q => q.2.2.2.2.1).getD 0
theorem ev_call {as rest : List Value} {v : Option Value} {M' : am_M} (h : am_do xs k pc l st M = some (.inr (.inr (.inr (as, rest))))) {k' : Nat} (hk : am_to k pc = k') (hwt : am_wt as ≤ am_ml k') (hc : am_Call d k' as M (.inl v, M')) (g : am_Ev (d + 1) xs k (pc + 3) l (v.toList ++ rest) M' r) : am_Ev (d + 1) xs k pc l st M r := by
  obtain ⟨n, g⟩ := g
  obtain ⟨n2, hc⟩ := hc
  refine ⟨max n n2 + 1, ?_⟩
  unfold am_do at h
  obtain ⟨q, hq, hs⟩ := Option.bind_eq_some_iff.mp h
  have hk2 : q.2.2.2.2.1 = k' := by rw [← hk]; simp [am_to, hq]
  simp only [am_run, hq, hs]
  rw [hk2, if_pos hwt]
  rw [am_mono hc (Nat.le_max_right n n2)]
  exact am_mono g (Nat.le_max_left n n2)
theorem ev_callx {as rest : List Value} {E : Nat} {M' : am_M} (h : am_do xs k pc l st M = some (.inr (.inr (.inr (as, rest))))) {k' : Nat} (hk : am_to k pc = k') (hwt : am_wt as ≤ am_ml k') (hc : am_Call d k' as M (.inr E, M')) (hh : am_hs k = []) : am_Ev (d + 1) xs k pc l st M (.inr E, M') := by
  obtain ⟨n2, hc⟩ := hc
  refine ⟨n2 + 1, ?_⟩
  unfold am_do at h
  obtain ⟨q, hq, hs⟩ := Option.bind_eq_some_iff.mp h
  have hk2 : q.2.2.2.2.1 = k' := by rw [← hk]; simp [am_to, hq]
  simp only [am_run, hq, hs]
  rw [hk2, if_pos hwt]
  rw [hc]
  simp [am_hd, hh]
theorem ev_callh {as rest : List Value} {E p : Nat} {M' : am_M} (h : am_do xs k pc l st M = some (.inr (.inr (.inr (as, rest))))) {k' : Nat} (hk : am_to k pc = k') (hwt : am_wt as ≤ am_ml k') (hc : am_Call d k' as M (.inr E, M')) (hh : am_hd k pc E = some p) (g : am_Ev (d + 1) xs k p l [.float 0] M' r) : am_Ev (d + 1) xs k pc l st M r := by
  obtain ⟨n, g⟩ := g
  obtain ⟨n2, hc⟩ := hc
  refine ⟨max n n2 + 1, ?_⟩
  unfold am_do at h
  obtain ⟨q, hq, hs⟩ := Option.bind_eq_some_iff.mp h
  have hk2 : q.2.2.2.2.1 = k' := by rw [← hk]; simp [am_to, hq]
  simp only [am_run, hq, hs]
  rw [hk2, if_pos hwt]
  rw [am_mono hc (Nat.le_max_right n n2)]
  simp only [hh]
  exact am_mono g (Nat.le_max_left n n2)
/-- j steps within the method, no call among them -/
noncomputable def am_go (xs : Option (Nat × (Nat → Int32))) (k : Nat) : Nat → Nat → am_L → List Value → am_M → Option am_N
  | 0, pc, l, st, M => some (pc, l, st, M)
  | j + 1, pc, l, st, M => match am_do xs k pc l st M with
    | some (.inl c) => am_go xs k j c.1 c.2.1 c.2.2.1 c.2.2.2
    | _ => none
noncomputable def am_bd (o : Option am_O) (xs : Option (Nat × (Nat → Int32))) (k j : Nat) : Option am_N := match o with
  | some (.inl c) => am_go xs k j c.1 c.2.1 c.2.2.1 c.2.2.2
  | _ => none
theorem go_0 : am_go xs k 0 pc l st M = some (pc, l, st, M) := rfl
theorem go_s {j : Nat} : am_go xs k (j + 1) pc l st M = am_bd (am_do xs k pc l st M) xs k j := rfl
theorem bd_nx {j : Nat} : am_bd (am_nx pc l st M) xs k j = am_go xs k j pc l st M := rfl
theorem ev_go (j : Nat) {pc' : Nat} {l' : am_L} {st' : List Value} {M' : am_M} (h : am_go xs k j pc l st M = some (pc', l', st', M')) (g : am_Ev d xs k pc' l' st' M' r) : am_Ev d xs k pc l st M r := by
  induction j generalizing pc l st M with
  | zero =>
    simp only [am_go, Option.some.injEq, Prod.mk.injEq] at h
    obtain ⟨rfl, rfl, rfl, rfl⟩ := h
    exact g
  | succ j ih =>
    unfold am_go at h
    split at h
    · rename_i c hc
      exact ev_one hc (ih h)
    · cases h
/-! rewriting rules for runs -/
theorem q_ldi (x : Int32) : am_ldi (some (.int x)) pc l st M = am_nx pc l (.int x :: st) M := rfl
theorem q_ldj (x : Int64) : am_ldj (some (.long x)) pc l st M = am_nx pc l (.long x :: st) M := rfl
theorem q_ldd (x : UInt64) : am_ldd (some (.double x)) pc l st M = am_nx pc l (.double x :: st) M := rfl
theorem q_lda (x : Nat) : am_lda (some (.ref x)) pc l st M = am_nx pc l (.ref x :: st) M := rfl
theorem q_ldn : am_lda (some .null) pc l st M = am_nx pc l (.null :: st) M := rfl
theorem q_ldr (x : Nat) : am_lda (some (.retAddr x)) pc l st M = am_nx pc l (.retAddr x :: st) M := rfl
theorem q_sta (i x : Nat) : am_sta i pc l (.ref x :: st) M = am_nx pc (am_s1 l i (.ref x)) st M := rfl
theorem q_stn (i : Nat) : am_sta i pc l (.null :: st) M = am_nx pc (am_s1 l i .null) st M := rfl
theorem q_str (i x : Nat) : am_sta i pc l (.retAddr x :: st) M = am_nx pc (am_s1 l i (.retAddr x)) st M := rfl
theorem q_stf (i : Nat) (x : UInt32) : am_sta i pc l (.float x :: st) M = am_nx pc (am_s1 l i (.float x)) st M := rfl
theorem q_lg (i j : Nat) (v : Value) : am_lg ((i, v) :: l) j = if i = j then some v else am_lg l j := rfl
theorem q_i1 (x : Int32) (f) : am_i1 (.int x :: st) f = f x st := rfl
theorem q_i2 (x y : Int32) (f) : am_i2 (.int y :: .int x :: st) f = f x y st := rfl
theorem q_j1 (x : Int64) (f) : am_j1 (.long x :: st) f = f x st := rfl
theorem q_j2 (x y : Int64) (f) : am_j2 (.long y :: .long x :: st) f = f x y st := rfl
theorem q_ij (x : Int64) (y : Int32) (f) : am_ij (.int y :: .long x :: st) f = f x y st := rfl
theorem q_d1 (x : UInt64) (f) : am_d1 (.double x :: st) f = f x st := rfl
theorem q_d2 (x y : UInt64) (f) : am_d2 (.double y :: .double x :: st) f = f x y st := rfl
theorem q_a1 (o : Nat) (f) : am_a1 (.ref o :: st) f = f o st := rfl
theorem q_ia (i : Int32) (o : Nat) (f) : am_ia (.int i :: .ref o :: st) f = f i o st := rfl
theorem q_via (v : Value) (i : Int32) (o : Nat) (f) : am_via (v :: .int i :: .ref o :: st) f = f v i o st := rfl
theorem q_set (M : am_M) (a b : Nat) (e : va_E) : am_f (am_set M a e) b = if b = a then e else am_f M b := rfl
theorem q_new (M : am_M) (z b : Nat) (e : va_E) : am_f (am_new M z e) b = if b = M.1 then e else am_f M b := rfl
theorem q_pay (M : am_M) (x y b : Nat) : am_f (am_pay M x y) b = am_f M b := rfl
theorem q_set1 (M : am_M) (a : Nat) (e : va_E) : (am_set M a e).1 = M.1 := rfl
theorem q_new1 (M : am_M) (z : Nat) (e : va_E) : (am_new M z e).1 = M.1 + 1 := rfl
theorem q_pay1 (M : am_M) (x y : Nat) : (am_pay M x y).1 = M.1 := rfl
theorem q_gf (ci a b : Nat) (fs : List Value) : am_gf (.inr (ci, fs)) a b = if ci = a then fs[b]? else none := rfl
theorem q_pf (ci a b c : Nat) (fs : List Value) (v : Value) : am_pf (.inr (ci, fs)) a b c v = if ci = a ∧ b < fs.length ∧ am_ok c v = true then some (.inr (ci, fs.set b v)) else none := rfl
theorem q_oki (x : Int32) : am_ok 0 (.int x) = true := rfl
theorem q_okj (x : Int64) : am_ok 1 (.long x) = true := rfl
theorem q_okd (x : UInt64) : am_ok 3 (.double x) = true := rfl
theorem q_oka (x : Nat) : am_ok 4 (.ref x) = true := rfl
theorem q_okn : am_ok 4 .null = true := rfl
theorem q_ai (t' n t : Nat) (f : Nat → Int32) (i : Int32) : am_ai (.inl (t', n, .inl f)) t i = if t' = t then (if i < 0 ∨ n ≤ i.toNatClampNeg then none else some (f i.toNatClampNeg)) else none := rfl
theorem q_aj (t' n : Nat) (f : Nat → Int64) (i : Int32) : am_aj (.inl (t', n, .inr (.inl f))) i = if t' = 1 then (if i < 0 ∨ n ≤ i.toNatClampNeg then none else some (f i.toNatClampNeg)) else none := rfl
theorem q_ad (t' n : Nat) (f : Nat → UInt64) (i : Int32) : am_ad (.inl (t', n, .inr (.inr (.inr (.inl f))))) i = if t' = 3 then (if i < 0 ∨ n ≤ i.toNatClampNeg then none else some (f i.toNatClampNeg)) else none := rfl
theorem q_aa (t' n : Nat) (f : Nat → Option Nat) (i : Int32) : am_aa (.inl (t', n, .inr (.inr (.inr (.inr f))))) i = if 4 ≤ t' ∧ t' ≤ 6 then (if i < 0 ∨ n ≤ i.toNatClampNeg then none else some (va_rf (f i.toNatClampNeg))) else none := rfl
theorem q_len (t' n : Nat) (x) : am_len (.inl (t', n, x)) = if t' ≤ 6 then some (Int32.ofNat n) else none := rfl
theorem q_wi (t' n t : Nat) (f : Nat → Int32) (i x : Int32) : am_wi (.inl (t', n, .inl f)) t i (.int x) = if t' = t ∧ ¬ (i < 0 ∨ n ≤ i.toNatClampNeg) ∧ am_ok t (.int x) = true then some (.inl (t', n, .inl (va_up f i.toNatClampNeg x))) else none := rfl
theorem q_wj (t' n : Nat) (f : Nat → Int64) (i : Int32) (x : Int64) : am_wj (.inl (t', n, .inr (.inl f))) i (.long x) = if t' = 1 ∧ ¬ (i < 0 ∨ n ≤ i.toNatClampNeg) then some (.inl (t', n, .inr (.inl (va_up f i.toNatClampNeg x)))) else none := rfl
theorem q_wd (t' n : Nat) (f : Nat → UInt64) (i : Int32) (x : UInt64) : am_wd (.inl (t', n, .inr (.inr (.inr (.inl f))))) i (.double x) = if t' = 3 ∧ ¬ (i < 0 ∨ n ≤ i.toNatClampNeg) then some (.inl (t', n, .inr (.inr (.inr (.inl (va_up f i.toNatClampNeg x)))))) else none := rfl
theorem q_wa (t' n : Nat) (f : Nat → Option Nat) (i : Int32) (x ci : Nat) (fs : List Value) : am_wa (.inl (t', n, .inr (.inr (.inr (.inr f))))) i x (.inr (ci, fs)) = if 4 ≤ t' ∧ t' ≤ 6 ∧ ci = am_elt t' ∧ ¬ (i < 0 ∨ n ≤ i.toNatClampNeg) then some (.inl (t', n, .inr (.inr (.inr (.inr (va_up f i.toNatClampNeg (some x))))))) else none := rfl
theorem q_s1 (i : Nat) (v : Value) : am_s1 l i v = (i, v) :: l.filter (fun q => !(q.1 == i) && !(q.1 + 1 == i && q.2.category == 2)) := rfl
theorem q_s2 (i : Nat) (v : Value) : am_s2 l i v = (i, v) :: l.filter (fun q => !(q.1 == i) && (!(q.1 == i + 1) && !(q.1 + 1 == i && q.2.category == 2))) := rfl
theorem q_args0 (i : Nat) : lv_args i [] = [] := rfl
theorem q_args (i : Nat) (v : Value) (vs : List Value) : lv_args i (v :: vs) = (i, v) :: lv_args (if v.category = 2 then i + 2 else i + 1) vs := rfl
theorem q_nx : am_nx pc l st M = some (.inl (pc, l, st, M)) := rfl
theorem q_ci (x : Int32) : (Value.int x).category = 1 := rfl
theorem q_cj (x : Int64) : (Value.long x).category = 2 := rfl
theorem q_cd (x : UInt64) : (Value.double x).category = 2 := rfl
theorem q_cr (x : Nat) : (Value.ref x).category = 1 := rfl
theorem q_cn : Value.null.category = 1 := rfl
theorem q_cf (x : UInt32) : (Value.float x).category = 1 := rfl
theorem q_cx (x : Nat) : (Value.retAddr x).category = 1 := rfl
theorem q_iv0 (a : Nat) (v : Value) (h : a = 0 ∨ a = 10) : am_inv a 0 v st M = if am_wt st ≤ 8 then some (.inr (.inr (.inr ([], st)))) else none := by
  simp [am_inv, h]
theorem q_is1 (a : Nat) (v x : Value) (h : a = 0 ∨ a = 10) : am_inv a 1 v (x :: st) M = if am_wt st ≤ 8 then some (.inr (.inr (.inr ([x], st)))) else none := by
  simp [am_inv, h]
theorem q_is2 (a : Nat) (v x y : Value) (h : a = 0 ∨ a = 10) : am_inv a 2 v (y :: x :: st) M = if am_wt st ≤ 8 then some (.inr (.inr (.inr ([x, y], st)))) else none := by
  simp [am_inv, h]
theorem q_is3 (a : Nat) (v x y z : Value) (h : a = 0 ∨ a = 10) : am_inv a 3 v (z :: y :: x :: st) M = if am_wt st ≤ 8 then some (.inr (.inr (.inr ([x, y, z], st)))) else none := by
  simp [am_inv, h]
theorem q_is4 (a : Nat) (v x y z u : Value) (h : a = 0 ∨ a = 10) : am_inv a 4 v (u :: z :: y :: x :: st) M = if am_wt st ≤ 8 then some (.inr (.inr (.inr ([x, y, z, u], st)))) else none := by
  simp [am_inv, h]
theorem q_io1 (a c o : Nat) (h : ¬ (a = 0 ∨ a = 10)) : am_inv a 1 (.retAddr c) (.ref o :: st) M = if am_wt st ≤ 8 then (if am_rcv (am_f M o) (.retAddr c) = true then some (.inr (.inr (.inr ([.ref o], st)))) else none) else none := by
  simp [am_inv, h]
theorem q_io2 (a c o : Nat) (x : Value) (h : ¬ (a = 0 ∨ a = 10)) : am_inv a 2 (.retAddr c) (x :: .ref o :: st) M = if am_wt st ≤ 8 then (if am_rcv (am_f M o) (.retAddr c) = true then some (.inr (.inr (.inr ([.ref o, x], st)))) else none) else none := by
  simp [am_inv, h]
theorem q_io3 (a c o : Nat) (x y : Value) (h : ¬ (a = 0 ∨ a = 10)) : am_inv a 3 (.retAddr c) (y :: x :: .ref o :: st) M = if am_wt st ≤ 8 then (if am_rcv (am_f M o) (.retAddr c) = true then some (.inr (.inr (.inr ([.ref o, x, y], st)))) else none) else none := by
  simp [am_inv, h]
theorem q_io4 (a c o : Nat) (x y z : Value) (h : ¬ (a = 0 ∨ a = 10)) : am_inv a 4 (.retAddr c) (z :: y :: x :: .ref o :: st) M = if am_wt st ≤ 8 then (if am_rcv (am_f M o) (.retAddr c) = true then some (.inr (.inr (.inr ([.ref o, x, y, z], st)))) else none) else none := by
  simp [am_inv, h]
theorem q_io5 (a c o : Nat) (x y z u : Value) (h : ¬ (a = 0 ∨ a = 10)) : am_inv a 5 (.retAddr c) (u :: z :: y :: x :: .ref o :: st) M = if am_wt st ≤ 8 then (if am_rcv (am_f M o) (.retAddr c) = true then some (.inr (.inr (.inr ([.ref o, x, y, z, u], st)))) else none) else none := by
  simp [am_inv, h]
theorem q_rcv (ci c : Nat) (fs : List Value) : am_rcv (.inr (ci, fs)) (.retAddr c) = (ci == c) := rfl
theorem q_rti (x : Int32) : am_rti [.int x] 0 = some (.inr (.inl (some (.int x)))) := rfl
theorem q_rtj (x : Int64) : am_rtj [.long x] = some (.inr (.inl (some (.long x)))) := rfl
theorem q_rtd (x : UInt64) : am_rtd [.double x] = some (.inr (.inl (some (.double x)))) := rfl
theorem q_rta (x : Nat) : am_rta [.ref x] = some (.inr (.inl (some (.ref x)))) := rfl
theorem q_rtv : am_rtv [] = some (.inr (.inl none)) := rfl
theorem q_rtz (p : Prop) [Decidable p] : am_rti [.int (if p then 1 else 0)] 2 = some (.inr (.inl (some (.int (if p then 1 else 0))))) := by
  split <;> rfl
end
