/-! the class: how it holds the abstract state -/
/-- addresses, raw cells of the scripts, the preview's range -/
abbrev xG : Type := (Nat → Nat → Nat) × (Nat → Nat → Int32) × Int64 × Nat
/-- the address of pass p; of observation o, of its reading, phases, estimates; of the tones of pass p; of the present tones; the first observation of pass p -/
def gpa (G : xG) (p : Nat) : Nat := G.1 0 p
def gob (G : xG) (o : Nat) : Nat := G.1 1 o
def gre (G : xG) (o : Nat) : Nat := G.1 2 o
def gph (G : xG) (o : Nat) : Nat := G.1 3 o
def ges (G : xG) (o : Nat) : Nat := G.1 4 o
def gwp (G : xG) (p : Nat) : Nat := G.1 5 p
def gwc (G : xG) : Nat := G.2.2.2
def glo (G : xG) (p : Nat) : Nat := G.1 6 p
def xru (P : am_S) (G : xG) : Value := if sn P 6 = 0 then .null else .ref (gpa G (sn P 4 - 1))
def xfi (G : xG) (p : Nat) : Value := if glo G p < glo G (p + 1) then .ref (gob G (glo G p)) else .null
def xla (G : xG) (p : Nat) : Value := if glo G p < glo G (p + 1) then .ref (gob G (glo G (p + 1) - 1)) else .null
def xdc (P : am_S) (G : xG) (o : Nat) : Int64 := if o = glo G (sN P 3 o) then 0 else mMv P o
def xbe (P : am_S) (G : xG) (o : Nat) : Value := if o = glo G (sN P 3 o) then .null else .ref (gob G (o - 1))
def xne (P : am_S) (G : xG) (o : Nat) : Value := if o + 1 < glo G (sN P 3 o + 1) then .ref (gob G (o + 1)) else .null
def xqf (P : am_S) (G : xG) (i : Nat) : Value := match i with
  | 0 => .ref 1
  | 1 => .ref 4
  | 2 => .int (si P 1)
  | 3 => .ref 7
  | 4 => .ref 8
  | 5 => .int (Int32.ofNat (sn P 1))
  | 6 => .ref (13 + sn P 2)
  | 7 => .ref (gwc G)
  | 8 => .int (si P 2)
  | 9 => .ref 10
  | 10 => .ref 11
  | 11 => .int (Int32.ofNat (sn P 4))
  | 12 => xru P G
  | 13 => .ref 12
  | 14 => .int (Int32.ofNat (sn P 5))
  | 15 => .long (sj P 1)
  | 16 => .long (sj P 2)
  | 17 => .int (si P 5)
  | _ => .null
theorem xqf_0 (P : am_S) (G : xG) : xqf P G 0 = .ref 1 := rfl
theorem xqf_1 (P : am_S) (G : xG) : xqf P G 1 = .ref 4 := rfl
theorem xqf_2 (P : am_S) (G : xG) : xqf P G 2 = .int (si P 1) := rfl
theorem xqf_3 (P : am_S) (G : xG) : xqf P G 3 = .ref 7 := rfl
theorem xqf_4 (P : am_S) (G : xG) : xqf P G 4 = .ref 8 := rfl
theorem xqf_5 (P : am_S) (G : xG) : xqf P G 5 = .int (Int32.ofNat (sn P 1)) := rfl
theorem xqf_6 (P : am_S) (G : xG) : xqf P G 6 = .ref (13 + sn P 2) := rfl
theorem xqf_7 (P : am_S) (G : xG) : xqf P G 7 = .ref (gwc G) := rfl
theorem xqf_8 (P : am_S) (G : xG) : xqf P G 8 = .int (si P 2) := rfl
theorem xqf_9 (P : am_S) (G : xG) : xqf P G 9 = .ref 10 := rfl
theorem xqf_10 (P : am_S) (G : xG) : xqf P G 10 = .ref 11 := rfl
theorem xqf_11 (P : am_S) (G : xG) : xqf P G 11 = .int (Int32.ofNat (sn P 4)) := rfl
theorem xqf_12 (P : am_S) (G : xG) : xqf P G 12 = xru P G := rfl
theorem xqf_13 (P : am_S) (G : xG) : xqf P G 13 = .ref 12 := rfl
theorem xqf_14 (P : am_S) (G : xG) : xqf P G 14 = .int (Int32.ofNat (sn P 5)) := rfl
theorem xqf_15 (P : am_S) (G : xG) : xqf P G 15 = .long (sj P 1) := rfl
theorem xqf_16 (P : am_S) (G : xG) : xqf P G 16 = .long (sj P 2) := rfl
theorem xqf_17 (P : am_S) (G : xG) : xqf P G 17 = .int (si P 5) := rfl
def xmo (P : am_S) (i : Nat) : Value := match i with
  | 0 => .long (sj P 0)
  | 1 => .int (si P 0)
  | 2 => .int (Int32.ofNat (sn P 0))
  | 3 => .ref 2
  | 4 => .ref 3
  | _ => .null
theorem xmo_0 (P : am_S) : xmo P 0 = .long (sj P 0) := rfl
theorem xmo_1 (P : am_S) : xmo P 1 = .int (si P 0) := rfl
theorem xmo_2 (P : am_S) : xmo P 2 = .int (Int32.ofNat (sn P 0)) := rfl
theorem xmo_3 (P : am_S) : xmo P 3 = .ref 2 := rfl
theorem xmo_4 (P : am_S) : xmo P 4 = .ref 3 := rfl
def xpv (G : xG) (i : Nat) : Value := match i with
  | 0 => .long G.2.2.1
  | 1 => .int (G.2.1 4 0)
  | 2 => .int (G.2.1 4 1)
  | 3 => .ref 5
  | 4 => .ref 6
  | _ => .null
theorem xpv_0 (G : xG) : xpv G 0 = .long G.2.2.1 := rfl
theorem xpv_1 (G : xG) : xpv G 1 = .int (G.2.1 4 0) := rfl
theorem xpv_2 (G : xG) : xpv G 2 = .int (G.2.1 4 1) := rfl
theorem xpv_3 (G : xG) : xpv G 3 = .ref 5 := rfl
theorem xpv_4 (G : xG) : xpv G 4 = .ref 6 := rfl
def xno (P : am_S) (i : Nat) : Value := match i with
  | 0 => .int (si P 4)
  | 1 => .int (si P 3)
  | _ => .null
theorem xno_0 (P : am_S) : xno P 0 = .int (si P 4) := rfl
theorem xno_1 (P : am_S) : xno P 1 = .int (si P 3) := rfl
noncomputable def xst (P : am_S) (s : Nat) (i : Nat) : Value := match i with
  | 0 => .int (Int32.ofNat s)
  | 1 => .long (sJ P 0 s)
  | 2 => .long (sJ P 1 s)
  | 3 => .int (mCal P (Int32.ofNat s))
  | _ => .null
theorem xst_0 (P : am_S) (s : Nat) : xst P s 0 = .int (Int32.ofNat s) := rfl
theorem xst_1 (P : am_S) (s : Nat) : xst P s 1 = .long (sJ P 0 s) := rfl
theorem xst_2 (P : am_S) (s : Nat) : xst P s 2 = .long (sJ P 1 s) := rfl
theorem xst_3 (P : am_S) (s : Nat) : xst P s 3 = .int (mCal P (Int32.ofNat s)) := rfl
def xpa (P : am_S) (G : xG) (p : Nat) (i : Nat) : Value := match i with
  | 0 => .int (Int32.ofNat p)
  | 1 => .ref (13 + sN P 1 p)
  | 2 => .ref (gwp G p)
  | 3 => .long (sJ P 3 (6 * p))
  | 4 => .int (sI P 2 p)
  | 5 => .long (sJ P 4 p)
  | 6 => .long (sJ P 5 p)
  | 7 => xfi G p
  | 8 => xla G p
  | 9 => .int (Int32.ofNat (glo G (p + 1) - glo G p))
  | 10 => .long (sJ P 6 p)
  | 11 => .int (Int32.ofNat (sN P 4 p))
  | _ => .null
theorem xpa_0 (P : am_S) (G : xG) (p : Nat) : xpa P G p 0 = .int (Int32.ofNat p) := rfl
theorem xpa_1 (P : am_S) (G : xG) (p : Nat) : xpa P G p 1 = .ref (13 + sN P 1 p) := rfl
theorem xpa_2 (P : am_S) (G : xG) (p : Nat) : xpa P G p 2 = .ref (gwp G p) := rfl
theorem xpa_3 (P : am_S) (G : xG) (p : Nat) : xpa P G p 3 = .long (sJ P 3 (6 * p)) := rfl
theorem xpa_4 (P : am_S) (G : xG) (p : Nat) : xpa P G p 4 = .int (sI P 2 p) := rfl
theorem xpa_5 (P : am_S) (G : xG) (p : Nat) : xpa P G p 5 = .long (sJ P 4 p) := rfl
theorem xpa_6 (P : am_S) (G : xG) (p : Nat) : xpa P G p 6 = .long (sJ P 5 p) := rfl
theorem xpa_7 (P : am_S) (G : xG) (p : Nat) : xpa P G p 7 = xfi G p := rfl
theorem xpa_8 (P : am_S) (G : xG) (p : Nat) : xpa P G p 8 = xla G p := rfl
theorem xpa_9 (P : am_S) (G : xG) (p : Nat) : xpa P G p 9 = .int (Int32.ofNat (glo G (p + 1) - glo G p)) := rfl
theorem xpa_10 (P : am_S) (G : xG) (p : Nat) : xpa P G p 10 = .long (sJ P 6 p) := rfl
theorem xpa_11 (P : am_S) (G : xG) (p : Nat) : xpa P G p 11 = .int (Int32.ofNat (sN P 4 p)) := rfl
def xob (P : am_S) (G : xG) (o : Nat) (i : Nat) : Value := match i with
  | 0 => .ref (gpa G (sN P 3 o))
  | 1 => .int (sI P 3 o)
  | 2 => .int (Int32.ofNat (o - glo G (sN P 3 o)))
  | 3 => .long (sJ P 7 o)
  | 4 => .long (xdc P G o)
  | 5 => .ref (gre G o)
  | 6 => xbe P G o
  | 7 => xne P G o
  | _ => .null
theorem xob_0 (P : am_S) (G : xG) (o : Nat) : xob P G o 0 = .ref (gpa G (sN P 3 o)) := rfl
theorem xob_1 (P : am_S) (G : xG) (o : Nat) : xob P G o 1 = .int (sI P 3 o) := rfl
theorem xob_2 (P : am_S) (G : xG) (o : Nat) : xob P G o 2 = .int (Int32.ofNat (o - glo G (sN P 3 o))) := rfl
theorem xob_3 (P : am_S) (G : xG) (o : Nat) : xob P G o 3 = .long (sJ P 7 o) := rfl
theorem xob_4 (P : am_S) (G : xG) (o : Nat) : xob P G o 4 = .long (xdc P G o) := rfl
theorem xob_5 (P : am_S) (G : xG) (o : Nat) : xob P G o 5 = .ref (gre G o) := rfl
theorem xob_6 (P : am_S) (G : xG) (o : Nat) : xob P G o 6 = xbe P G o := rfl
theorem xob_7 (P : am_S) (G : xG) (o : Nat) : xob P G o 7 = xne P G o := rfl
def xre (P : am_S) (G : xG) (o : Nat) (i : Nat) : Value := match i with
  | 0 => .ref (gwp G (sN P 3 o))
  | 1 => .ref (gph G o)
  | 2 => .ref (ges G o)
  | _ => .null
theorem xre_0 (P : am_S) (G : xG) (o : Nat) : xre P G o 0 = .ref (gwp G (sN P 3 o)) := rfl
theorem xre_1 (P : am_S) (G : xG) (o : Nat) : xre P G o 1 = .ref (gph G o) := rfl
theorem xre_2 (P : am_S) (G : xG) (o : Nat) : xre P G o 2 = .ref (ges G o) := rfl
noncomputable def xqm (P : am_S) (G : xG) (a : Nat) : va_E := match a with
  | 0 => ob 7 18 (xqf P G)
  | 1 => ob 1 5 (xmo P)
  | 2 => .inl (0, 20, .inl (G.2.1 0))
  | 3 => .inl (0, 20, .inl (G.2.1 1))
  | 4 => ob 1 5 (xpv G)
  | 5 => .inl (0, 20, .inl (G.2.1 2))
  | 6 => .inl (0, 20, .inl (G.2.1 3))
  | 7 => .inl (4, 10, .inr (.inr (.inr (.inr (fun k => if k < 10 then some (13 + k) else none)))))
  | 8 => .inl (4, 10, .inr (.inr (.inr (.inr (fun k => if k < sn P 1 then some (13 + sN P 0 k) else none)))))
  | 10 => ob 2 2 (xno P)
  | 11 => .inl (5, 20, .inr (.inr (.inr (.inr (fun p => if p < sn P 4 then some (gpa G p) else none)))))
  | 12 => .inl (6, 100, .inr (.inr (.inr (.inr (fun o => if o < sn P 5 then some (gob G o) else none)))))
  | 13 => ob 6 4 (xst P 0)
  | 14 => ob 6 4 (xst P 1)
  | 15 => ob 6 4 (xst P 2)
  | 16 => ob 6 4 (xst P 3)
  | 17 => ob 6 4 (xst P 4)
  | 18 => ob 6 4 (xst P 5)
  | 19 => ob 6 4 (xst P 6)
  | 20 => ob 6 4 (xst P 7)
  | 21 => ob 6 4 (xst P 8)
  | 22 => ob 6 4 (xst P 9)
  | _ => am_junk
def xLo (P : am_S) (lo : Nat → Nat) : Prop := lo 0 = 0 ∧ (∀ p, p < sn P 4 → lo p ≤ lo (p + 1)) ∧ lo (sn P 4) = sn P 5 ∧ ∀ p, p < sn P 4 → ∀ o, lo p ≤ o → o < lo (p + 1) → sN P 3 o = p
def xIn (M : am_M) (a : Nat) : Prop := 47 ≤ a ∧ a < M.1
def xTn (M : am_M) (a n : Nat) (F : Nat → Int64) : Prop := ∃ w, am_f M a = .inl (1, n, .inr (.inl w)) ∧ ∀ k, k < n → w k = F k
def xWs (P : am_S) (G : xG) (M : am_M) : Prop := (gwc G = 9 ∨ xIn M (gwc G)) ∧ xTn M (gwc G) (sn P 3) (sJ P 2)
def xPs (P : am_S) (G : xG) (M : am_M) (p : Nat) : Prop := am_f M (gpa G p) = ob 4 12 (xpa P G p) ∧ xIn M (gpa G p) ∧ (gwp G p = 9 ∨ xIn M (gwp G p)) ∧ xTn M (gwp G p) (sN P 2 p) (fun k => sJ P 3 (6 * p + k))
def xOs (P : am_S) (G : xG) (M : am_M) (o : Nat) : Prop := am_f M (gob G o) = ob 3 8 (xob P G o) ∧ xIn M (gob G o) ∧ am_f M (gre G o) = ob 5 3 (xre P G o) ∧ xIn M (gre G o) ∧ xIn M (gph G o) ∧ xIn M (ges G o) ∧ xTn M (ges G o) (sN P 2 (sN P 3 o)) (mE P o) ∧ ∃ f, am_f M (gph G o) = .inl (0, sN P 2 (sN P 3 o), .inl f) ∧ ∀ k, k < sN P 2 (sN P 3 o) → f k = sI P 4 (6 * o + k)
def xRep (P : am_S) (G : xG) (M : am_M) : Prop := 47 ≤ M.1 ∧ (∀ a, a ≤ 22 → a ≠ 9 → am_f M a = xqm P G a) ∧ (∀ k, k < sn P 0 → G.2.1 0 k = sI P 0 k ∧ G.2.1 1 k = sI P 1 k) ∧ xLo P (glo G) ∧ xWs P G M ∧ (∀ p, p < sn P 4 → xPs P G M p) ∧ (∀ o, o < sn P 5 → xOs P G M o) ∧ ∀ o o', o < sn P 5 → o' < sn P 5 → gob G o = gob G o' → o = o'
theorem xm_0 {P : am_S} {G : xG} {M : am_M} (h : xRep P G M) : am_f M 0 = ob 7 18 (xqf P G) := h.2.1 0 (by decide) (by decide)
theorem xm_1 {P : am_S} {G : xG} {M : am_M} (h : xRep P G M) : am_f M 1 = ob 1 5 (xmo P) := h.2.1 1 (by decide) (by decide)
theorem xm_2 {P : am_S} {G : xG} {M : am_M} (h : xRep P G M) : am_f M 2 = .inl (0, 20, .inl (G.2.1 0)) := h.2.1 2 (by decide) (by decide)
theorem xm_3 {P : am_S} {G : xG} {M : am_M} (h : xRep P G M) : am_f M 3 = .inl (0, 20, .inl (G.2.1 1)) := h.2.1 3 (by decide) (by decide)
theorem xm_4 {P : am_S} {G : xG} {M : am_M} (h : xRep P G M) : am_f M 4 = ob 1 5 (xpv G) := h.2.1 4 (by decide) (by decide)
theorem xm_5 {P : am_S} {G : xG} {M : am_M} (h : xRep P G M) : am_f M 5 = .inl (0, 20, .inl (G.2.1 2)) := h.2.1 5 (by decide) (by decide)
theorem xm_6 {P : am_S} {G : xG} {M : am_M} (h : xRep P G M) : am_f M 6 = .inl (0, 20, .inl (G.2.1 3)) := h.2.1 6 (by decide) (by decide)
theorem xm_7 {P : am_S} {G : xG} {M : am_M} (h : xRep P G M) : am_f M 7 = .inl (4, 10, .inr (.inr (.inr (.inr (fun k => if k < 10 then some (13 + k) else none))))) := h.2.1 7 (by decide) (by decide)
theorem xm_8 {P : am_S} {G : xG} {M : am_M} (h : xRep P G M) : am_f M 8 = .inl (4, 10, .inr (.inr (.inr (.inr (fun k => if k < sn P 1 then some (13 + sN P 0 k) else none))))) := h.2.1 8 (by decide) (by decide)
theorem xm_10 {P : am_S} {G : xG} {M : am_M} (h : xRep P G M) : am_f M 10 = ob 2 2 (xno P) := h.2.1 10 (by decide) (by decide)
theorem xm_11 {P : am_S} {G : xG} {M : am_M} (h : xRep P G M) : am_f M 11 = .inl (5, 20, .inr (.inr (.inr (.inr (fun p => if p < sn P 4 then some (gpa G p) else none))))) := h.2.1 11 (by decide) (by decide)
theorem xm_12 {P : am_S} {G : xG} {M : am_M} (h : xRep P G M) : am_f M 12 = .inl (6, 100, .inr (.inr (.inr (.inr (fun o => if o < sn P 5 then some (gob G o) else none))))) := h.2.1 12 (by decide) (by decide)
theorem xm_13 {P : am_S} {G : xG} {M : am_M} (h : xRep P G M) : am_f M 13 = ob 6 4 (xst P 0) := h.2.1 13 (by decide) (by decide)
theorem xm_14 {P : am_S} {G : xG} {M : am_M} (h : xRep P G M) : am_f M 14 = ob 6 4 (xst P 1) := h.2.1 14 (by decide) (by decide)
theorem xm_15 {P : am_S} {G : xG} {M : am_M} (h : xRep P G M) : am_f M 15 = ob 6 4 (xst P 2) := h.2.1 15 (by decide) (by decide)
theorem xm_16 {P : am_S} {G : xG} {M : am_M} (h : xRep P G M) : am_f M 16 = ob 6 4 (xst P 3) := h.2.1 16 (by decide) (by decide)
theorem xm_17 {P : am_S} {G : xG} {M : am_M} (h : xRep P G M) : am_f M 17 = ob 6 4 (xst P 4) := h.2.1 17 (by decide) (by decide)
theorem xm_18 {P : am_S} {G : xG} {M : am_M} (h : xRep P G M) : am_f M 18 = ob 6 4 (xst P 5) := h.2.1 18 (by decide) (by decide)
theorem xm_19 {P : am_S} {G : xG} {M : am_M} (h : xRep P G M) : am_f M 19 = ob 6 4 (xst P 6) := h.2.1 19 (by decide) (by decide)
theorem xm_20 {P : am_S} {G : xG} {M : am_M} (h : xRep P G M) : am_f M 20 = ob 6 4 (xst P 7) := h.2.1 20 (by decide) (by decide)
theorem xm_21 {P : am_S} {G : xG} {M : am_M} (h : xRep P G M) : am_f M 21 = ob 6 4 (xst P 8) := h.2.1 21 (by decide) (by decide)
theorem xm_22 {P : am_S} {G : xG} {M : am_M} (h : xRep P G M) : am_f M 22 = ob 6 4 (xst P 9) := h.2.1 22 (by decide) (by decide)
theorem xm_st {P : am_S} {G : xG} {M : am_M} (h : xRep P G M) {s : Nat} (hs : s < 10) : am_f M (13 + s) = ob 6 4 (xst P s) := by
  have : s = 0 ∨ s = 1 ∨ s = 2 ∨ s = 3 ∨ s = 4 ∨ s = 5 ∨ s = 6 ∨ s = 7 ∨ s = 8 ∨ s = 9 := by omega
  rcases this with rfl | rfl | rfl | rfl | rfl | rfl | rfl | rfl | rfl | rfl
  · exact xm_13 h
  · exact xm_14 h
  · exact xm_15 h
  · exact xm_16 h
  · exact xm_17 h
  · exact xm_18 h
  · exact xm_19 h
  · exact xm_20 h
  · exact xm_21 h
  · exact xm_22 h
theorem xm_ps {P : am_S} {G : xG} {M : am_M} (h : xRep P G M) {p : Nat} (hp : p < sn P 4) : am_f M (gpa G p) = ob 4 12 (xpa P G p) := (h.2.2.2.2.2.1 p hp).1
theorem xm_os {P : am_S} {G : xG} {M : am_M} (h : xRep P G M) {o : Nat} (ho : o < sn P 5) : am_f M (gob G o) = ob 3 8 (xob P G o) := (h.2.2.2.2.2.2.1 o ho).1
theorem xm_re {P : am_S} {G : xG} {M : am_M} (h : xRep P G M) {o : Nat} (ho : o < sn P 5) : am_f M (gre G o) = ob 5 3 (xre P G o) := (h.2.2.2.2.2.2.1 o ho).2.2.1
theorem xm_es {P : am_S} {G : xG} {M : am_M} (h : xRep P G M) {o : Nat} (ho : o < sn P 5) : xTn M (ges G o) (sN P 2 (sN P 3 o)) (mE P o) := (h.2.2.2.2.2.2.1 o ho).2.2.2.2.2.2.1
theorem xm_ph {P : am_S} {G : xG} {M : am_M} (h : xRep P G M) {o : Nat} (ho : o < sn P 5) : ∃ f, am_f M (gph G o) = .inl (0, sN P 2 (sN P 3 o), .inl f) ∧ ∀ k, k < sN P 2 (sN P 3 o) → f k = sI P 4 (6 * o + k) := (h.2.2.2.2.2.2.1 o ho).2.2.2.2.2.2.2
theorem xm_wp {P : am_S} {G : xG} {M : am_M} (h : xRep P G M) {p : Nat} (hp : p < sn P 4) : xTn M (gwp G p) (sN P 2 p) (fun k => sJ P 3 (6 * p + k)) := (h.2.2.2.2.2.1 p hp).2.2.2
theorem xm_wc {P : am_S} {G : xG} {M : am_M} (h : xRep P G M) : xTn M (gwc G) (sn P 3) (sJ P 2) := h.2.2.2.2.1.2
theorem xm_lo {P : am_S} {G : xG} {M : am_M} (h : xRep P G M) : xLo P (glo G) := h.2.2.2.1
