/-! the abstract memory and the heap -/
section WD
/-- a value and what it stands for: L the addresses of what was made, b the script's -/
def am_VR (b : Nat) (L : List Nat) : Value → Value → Prop
  | .int x, r => r = .int x
  | .long x, r => r = .long x
  | .double x, r => ∃ y, r = .double y ∧ alike64 y x = true
  | .null, r => r = .null
  | .ref a, r => ∃ q, L[a]? = some q ∧ r = .ref q
  | .float _, r => ∃ q, r = .ref q
  | .retAddr _, r => r = .ref b
def am_SR (V : Value → Value → Prop) : List Value → List Value → Prop
  | [], [] => True
  | v :: vs, r :: rs => V v r ∧ am_SR V vs rs
  | _, _ => False
def am_TR (V : Value → Value → Prop) : List (Nat × Value) → List (Nat × Value) → Prop
  | [], [] => True
  | v :: vs, r :: rs => v.1 = r.1 ∧ V v.2 r.2 ∧ am_TR V vs rs
  | _, _ => False
def am_QR (L : List Nat) : Option Nat → Option Nat → Prop
  | none, g => g = none
  | some a, g => ∃ q, L[a]? = some q ∧ g = some q
def am_XR (L : List Nat) : ((Nat → Int32) ⊕ (Nat → Int64) ⊕ (Nat → UInt32) ⊕ (Nat → UInt64) ⊕ (Nat → Option Nat)) → ((Nat → Int32) ⊕ (Nat → Int64) ⊕ (Nat → UInt32) ⊕ (Nat → UInt64) ⊕ (Nat → Option Nat)) → Prop
  | .inl f, y => y = .inl f
  | .inr (.inl f), y => y = .inr (.inl f)
  | .inr (.inr (.inl _)), _ => False
  | .inr (.inr (.inr (.inl f))), y => ∃ g, y = .inr (.inr (.inr (.inl g))) ∧ ∀ j, alike64 (g j) (f j) = true
  | .inr (.inr (.inr (.inr f))), y => ∃ g, y = .inr (.inr (.inr (.inr g))) ∧ ∀ j, am_QR L (f j) (g j)
def am_ER (cT : List (ClassId × FieldType)) (b : Nat) (L : List Nat) : va_E → va_E → Prop
  | .inr o, y => ∃ gs, y = .inr (o.1, gs) ∧ o.1 < 9 ∧ am_SR (am_VR b L) o.2 gs
  | .inl a, y => ∃ cA ty x, y = .inl (cA, a.2.1, x) ∧ cT[a.1]? = some (cA, ty) ∧ am_XR L a.2.2 x
def am_junk : va_E := .inr (1000, [])
def am_la (ws : va_W) : List Nat := ws.map (fun q => q.1)
def am_Wd (D : va_G) (cT : List (ClassId × FieldType)) (b : Nat) (A : Nat → Prop) (M : am_M) (ws : va_W) (H : Heap) : Prop :=
  va_P D am_cls ws H ∧ va_D A ws ∧ ws.length = M.1 ∧ (∀ (a : Nat) (q : Nat × va_E), ws[a]? = some q → am_ER cT b (am_la ws) (am_f M a) q.2) ∧ ∀ a, M.1 ≤ a → am_f M a = am_junk
def am_pre (L L' : List Nat) : Prop := ∀ (a q : Nat), L[a]? = some q → L'[a]? = some q
theorem am_pre.refl (L : List Nat) : am_pre L L := fun _ _ h => h
theorem am_pre.trans {L L' L'' : List Nat} (h : am_pre L L') (g : am_pre L' L'') : am_pre L L'' := fun a q x => g a q (h a q x)
theorem am_pre.snoc (L : List Nat) (x : Nat) : am_pre L (L ++ [x]) := fun a q h => by
  rw [List.getElem?_append_left (List.getElem?_eq_some_iff.mp h).1]; exact h
theorem am_VR.mono {b : Nat} {L L' : List Nat} (h : am_pre L L') {v r : Value} (g : am_VR b L v r) : am_VR b L' v r := by
  cases v <;> first | exact g | (obtain ⟨q, h1, h2⟩ := g; exact ⟨q, h _ _ h1, h2⟩)
theorem am_SR.mono {V V' : Value → Value → Prop} (h : ∀ v r, V v r → V' v r) : ∀ {vs rs : List Value}, am_SR V vs rs → am_SR V' vs rs
  | [], [], _ => trivial
  | _ :: _, _ :: _, ⟨h1, h2⟩ => ⟨h _ _ h1, am_SR.mono h h2⟩
theorem am_TR.mono {V V' : Value → Value → Prop} (h : ∀ v r, V v r → V' v r) : ∀ {vs rs : List (Nat × Value)}, am_TR V vs rs → am_TR V' vs rs
  | [], [], _ => trivial
  | _ :: _, _ :: _, ⟨h0, h1, h2⟩ => ⟨h0, h _ _ h1, am_TR.mono h h2⟩
theorem am_QR.mono {L L' : List Nat} (h : am_pre L L') {f g : Option Nat} (x : am_QR L f g) : am_QR L' f g := by
  cases f with
  | none => exact x
  | some a => obtain ⟨q, h1, h2⟩ := x; exact ⟨q, h _ _ h1, h2⟩
theorem am_ER.mono {cT : List (ClassId × FieldType)} {b : Nat} {L L' : List Nat} (h : am_pre L L') {x y : va_E} (g : am_ER cT b L x y) : am_ER cT b L' x y := by
  cases x with
  | inr o =>
    obtain ⟨gs, h1, h2, h3⟩ := g
    exact ⟨gs, h1, h2, h3.mono fun _ _ => am_VR.mono h⟩
  | inl a =>
    obtain ⟨cA, ty, x, h1, h2, h3⟩ := g
    refine ⟨cA, ty, x, h1, h2, ?_⟩
    obtain ⟨t, n, f⟩ := a
    match f, h3 with
    | .inl f, h3 => exact h3
    | .inr (.inl f), h3 => exact h3
    | .inr (.inr (.inr (.inl f))), h3 => exact h3
    | .inr (.inr (.inr (.inr f))), h3 =>
      obtain ⟨g, h4, h5⟩ := h3
      exact ⟨g, h4, fun j => (h5 j).mono h⟩
theorem am_VR.cat {b : Nat} {L : List Nat} {v r : Value} (g : am_VR b L v r) : r.category = v.category := by
  cases v with
  | double x => obtain ⟨y, rfl, -⟩ := g; rfl
  | ref a => obtain ⟨q, -, rfl⟩ := g; rfl
  | float x => obtain ⟨q, rfl⟩ := g; rfl
  | int x => cases g; rfl
  | long x => cases g; rfl
  | null => cases g; rfl
  | retAddr x => cases g; rfl
theorem am_SR.get {V : Value → Value → Prop} : ∀ {vs rs : List Value} {k : Nat} {v : Value}, am_SR V vs rs → vs[k]? = some v → ∃ r, rs[k]? = some r ∧ V v r
  | [], [], k, v, _, h => by simp at h
  | a :: vs, r :: rs, 0, v, ⟨h1, _⟩, h => by
    simp only [List.getElem?_cons_zero, Option.some.injEq] at h
    subst h
    exact ⟨r, rfl, h1⟩
  | a :: vs, r :: rs, k + 1, v, ⟨_, h2⟩, h => by
    simp only [List.getElem?_cons_succ] at h ⊢
    exact am_SR.get h2 h
theorem am_SR.set {V : Value → Value → Prop} : ∀ {vs rs : List Value} {k : Nat} {v r : Value}, am_SR V vs rs → V v r → am_SR V (vs.set k v) (rs.set k r)
  | [], [], k, v, r, _, _ => by simp [am_SR]
  | a :: vs, x :: rs, 0, v, r, ⟨_, h2⟩, h => ⟨h, h2⟩
  | a :: vs, x :: rs, k + 1, v, r, ⟨h1, h2⟩, h => ⟨h1, am_SR.set h2 h⟩
theorem am_SR.len {V : Value → Value → Prop} : ∀ {vs rs : List Value}, am_SR V vs rs → rs.length = vs.length
  | [], [], _ => rfl
  | _ :: _, _ :: _, ⟨_, h2⟩ => by simp [am_SR.len h2]
theorem am_SR.app {V : Value → Value → Prop} : ∀ {vs rs vs' rs' : List Value}, am_SR V vs rs → am_SR V vs' rs' → am_SR V (vs ++ vs') (rs ++ rs')
  | [], [], _, _, _, h => h
  | _ :: _, _ :: _, _, _, ⟨h1, h2⟩, h => ⟨h1, am_SR.app h2 h⟩
theorem am_SR.take {V : Value → Value → Prop} : ∀ {vs rs : List Value} (n : Nat), am_SR V vs rs → am_SR V (vs.take n) (rs.take n)
  | [], [], n, _ => by simp [am_SR]
  | _ :: _, _ :: _, 0, _ => trivial
  | _ :: _, _ :: _, n + 1, ⟨h1, h2⟩ => ⟨h1, am_SR.take n h2⟩
theorem am_SR.drop {V : Value → Value → Prop} : ∀ {vs rs : List Value} (n : Nat), am_SR V vs rs → am_SR V (vs.drop n) (rs.drop n)
  | [], [], n, _ => by simp [am_SR]
  | _ :: _, _ :: _, 0, h => h
  | _ :: _, _ :: _, n + 1, ⟨_, h2⟩ => am_SR.drop n h2
theorem am_SR.rev {V : Value → Value → Prop} : ∀ {vs rs : List Value}, am_SR V vs rs → am_SR V vs.reverse rs.reverse
  | [], [], _ => trivial
  | _ :: _, _ :: _, ⟨h1, h2⟩ => by
    simp only [List.reverse_cons]
    exact (am_SR.rev h2).app ⟨h1, trivial⟩
theorem am_SR.wt {b : Nat} {L : List Nat} : ∀ {vs rs : List Value}, am_SR (am_VR b L) vs rs → (rs.map fun v => v.category).sum = am_wt vs
  | [], [], _ => rfl
  | _ :: _, _ :: _, ⟨h1, h2⟩ => by simp [am_wt, am_SR.wt h2, h1.cat]
theorem am_TR.get {V : Value → Value → Prop} : ∀ {vs rs : List (Nat × Value)} {k : Nat} {v : Value}, am_TR V vs rs → am_lg vs k = some v → ∃ r, (k, r) ∈ rs ∧ V v r
  | [], [], k, v, _, h => by simp [am_lg] at h
  | a :: vs, r :: rs, k, v, ⟨h0, h1, h2⟩, h => by
    simp only [am_lg] at h
    split at h
    · rename_i e
      cases h
      exact ⟨r.2, by rw [← e, h0]; exact List.mem_cons_self, h1⟩
    · obtain ⟨x, hx, hv⟩ := am_TR.get h2 h
      exact ⟨x, List.mem_cons_of_mem _ hx, hv⟩
theorem am_TR.filter {b : Nat} {L : List Nat} (P : Nat → Nat → Bool) : ∀ {vs rs : List (Nat × Value)}, am_TR (am_VR b L) vs rs → am_TR (am_VR b L) (vs.filter fun q => P q.1 q.2.category) (rs.filter fun q => P q.1 q.2.category)
  | [], [], _ => trivial
  | a :: vs, r :: rs, ⟨h0, h1, h2⟩ => by
    simp only [List.filter_cons, ← h0, h1.cat]
    split
    · exact ⟨h0, h1, am_TR.filter P h2⟩
    · exact am_TR.filter P h2
theorem am_TR.args {b : Nat} {L : List Nat} : ∀ {vs rs : List Value} (i : Nat), am_SR (am_VR b L) vs rs → am_TR (am_VR b L) (lv_args i vs) (lv_args i rs)
  | [], [], _, _ => trivial
  | v :: vs, r :: rs, i, ⟨h1, h2⟩ => by
    simp only [lv_args, h1.cat]
    exact ⟨rfl, h1, am_TR.args _ h2⟩
theorem am_la_get {ws : va_W} {a : Nat} {q : Nat} (h : (am_la ws)[a]? = some q) : ∃ e, ws[a]? = some (q, e) := by
  unfold am_la at h
  rw [List.getElem?_map] at h
  cases hw : ws[a]? with
  | none => rw [hw] at h; cases h
  | some x => rw [hw] at h; cases h; exact ⟨x.2, rfl⟩
theorem am_la_set (ws : va_W) (a q : Nat) (e e' : va_E) (h : ws[a]? = some (q, e)) : am_la (ws.set a (q, e')) = am_la ws := by
  unfold am_la
  rw [List.map_set]
  apply List.ext_getElem?
  intro i
  by_cases hi : a = i
  · subst hi
    have hl := (List.getElem?_eq_some_iff.mp h).1
    rw [List.getElem?_set_self (by simpa using hl), List.getElem?_map, h]
    rfl
  · rw [List.getElem?_set_ne hi]
section
variable {D : va_G} {cT : List (ClassId × FieldType)} {b : Nat} {A : Nat → Prop} {M : am_M} {ws : va_W} {H H1 : Heap}
theorem am_Wd.get (h : am_Wd D cT b A M ws H) {o q : Nat} (ho : (am_la ws)[o]? = some q) : ∃ e, ws[o]? = some (q, e) ∧ am_ER cT b (am_la ws) (am_f M o) e := by
  obtain ⟨e, he⟩ := am_la_get ho
  exact ⟨e, he, h.2.2.2.1 o _ he⟩
theorem am_Wd.set (h : am_Wd D cT b A M ws H) {o q : Nat} {e e' x : va_E} (he : ws[o]? = some (q, e)) (hx : am_ER cT b (am_la ws) x e') (hP : va_P D am_cls (ws.set o (q, e')) H1) (hD : va_D A (ws.set o (q, e'))) : am_Wd D cT b A (am_set M o x) (ws.set o (q, e')) H1 := by
  have ho := (List.getElem?_eq_some_iff.mp he).1
  refine ⟨hP, hD, by rw [List.length_set]; exact h.2.2.1, fun a p hp => ?_, fun a ha => ?_⟩
  · rw [am_la_set ws o q e e' he]
    by_cases hao : a = o
    · subst hao
      rw [List.getElem?_set_self ho] at hp
      cases hp
      show am_ER cT b (am_la ws) (va_up M.2.2.2 a x a) e'
      rw [va_up_self]
      exact hx
    · rw [List.getElem?_set_ne (Ne.symm hao)] at hp
      show am_ER cT b (am_la ws) (va_up M.2.2.2 o x a) p.2
      rw [va_up_ne _ _ hao]
      exact h.2.2.2.1 a p hp
  · have hne : a ≠ o := by
      have := h.2.2.1
      intro e2
      subst e2
      exact absurd ha (by show ¬ M.1 ≤ a; omega)
    show va_up M.2.2.2 o x a = am_junk
    rw [va_up_ne _ _ hne]
    exact h.2.2.2.2 a ha
theorem am_Wd.push (h : am_Wd D cT b A M ws H) {q z : Nat} {e x : va_E} (hx : am_ER cT b (am_la ws ++ [q]) x e) (hP : va_P D am_cls (ws ++ [(q, e)]) H1) (hD : va_D A (ws ++ [(q, e)])) : am_Wd D cT b A (am_new M z x) (ws ++ [(q, e)]) H1 := by
  have had : am_la (ws ++ [(q, e)]) = am_la ws ++ [q] := by simp [am_la]
  refine ⟨hP, hD, by rw [List.length_append, h.2.2.1]; rfl, fun a p hp => ?_, fun a ha => ?_⟩
  · rw [had]
    by_cases hao : a = M.1
    · subst hao
      rw [List.getElem?_append_right (by rw [h.2.2.1]; exact Nat.le_refl _), h.2.2.1, Nat.sub_self] at hp
      cases hp
      show am_ER cT b _ (va_up M.2.2.2 M.1 x M.1) e
      rw [va_up_self]
      exact hx
    · show am_ER cT b _ (va_up M.2.2.2 M.1 x a) p.2
      rw [va_up_ne _ _ hao]
      have hl := (List.getElem?_eq_some_iff.mp hp).1
      rw [List.length_append, h.2.2.1] at hl
      simp only [List.length_cons, List.length_nil] at hl
      rw [List.getElem?_append_left (by rw [h.2.2.1]; omega)] at hp
      exact (h.2.2.2.1 a p hp).mono (am_pre.snoc _ _)
  · have ha' : M.1 + 1 ≤ a := ha
    show va_up M.2.2.2 M.1 x a = am_junk
    rw [va_up_ne _ _ (by omega)]
    exact h.2.2.2.2 a (by omega)
theorem am_Wd.pay (h : am_Wd D cT b A M ws H) (j z : Nat) : am_Wd D cT b A (am_pay M j z) ws H := h
theorem am_Wd.weaken {A' : Nat → Prop} (h : am_Wd D cT b A M ws H) (hA : ∀ q, q ∈ am_la ws → A' q) : am_Wd D cT b A' M ws H :=
  ⟨h.1, ⟨h.2.1.1, fun k q hk => hA _ (List.mem_map.mpr ⟨q, List.mem_of_getElem? hk, rfl⟩)⟩, h.2.2⟩
theorem am_Wd.kept (h : am_Wd D cT b A M ws H) (hq : ∀ q : Nat, q < H.size → H1[q]? = H[q]?) : am_Wd D cT b A M ws H1 :=
  ⟨h.1.kept fun k q hk => hq _ (h.1 k q hk).lt, h.2⟩
theorem am_Wd.inA (h : am_Wd D cT b A M ws H) {q : Nat} (hq : q ∈ am_la ws) : A q := by
  obtain ⟨p, hp, rfl⟩ := List.mem_map.mp hq
  obtain ⟨k, hk⟩ := List.getElem?_of_mem hp
  exact h.2.1.2 k p hk
end
end WD
