/-! the abstract state, and how the model holds it -/
/-- counts, ints, longs; arrays of counts, of ints, of longs -/
abbrev am_S : Type := (Nat → Nat) × (Nat → Int32) × (Nat → Int64) × (Nat → Nat → Nat) × (Nat → Nat → Int32) × (Nat → Nat → Int64)
abbrev am_T : Type := (Nat → Value) × (Nat → Int64) × (Nat → Int64) × (Nat → Int32)
/-- 0 segments, 1 calibrations, 2 station, 3 tones, 4 passes, 5 observations, 6 whether a pass runs -/
def sn (P : am_S) : Nat → Nat := P.1
/-- 0 rate, 1 time, 2 doppler, 3 noise, 4 seed, 5 window -/
def si (P : am_S) : Nat → Int32 := P.2.1
/-- 0 range, 1 prior, 2 threshold -/
def sj (P : am_S) : Nat → Int64 := P.2.2.1
/-- 0 calibrated, 1 the passes' stations, 2 the passes' tones, 3 the observations' passes, 4 whether joined -/
def sN (P : am_S) : Nat → Nat → Nat := P.2.2.2.1
/-- 0 seconds, 1 accelerations, 2 the passes' doppler, 3 times, 4 phases -/
def sI (P : am_S) : Nat → Nat → Int32 := P.2.2.2.2.1
/-- 0 delays, 1 estimates, 2 tones, 3 the passes' tones, 4 begins, 5 slips, 6 ambiguities, 7 the observations' counts -/
def sJ (P : am_S) : Nat → Nat → Int64 := P.2.2.2.2.2
def ru (P : am_S) : Int32 := if sn P 6 = 0 then -1 else Int32.ofNat (sn P 4 - 1)
def un (P : am_S) (i v : Nat) : am_S := (va_up P.1 i v, P.2)
def ui (P : am_S) (i : Nat) (v : Int32) : am_S := (P.1, va_up P.2.1 i v, P.2.2)
def uj (P : am_S) (i : Nat) (v : Int64) : am_S := (P.1, P.2.1, va_up P.2.2.1 i v, P.2.2.2)
def uN (P : am_S) (i : Nat) (f : Nat → Nat) : am_S := (P.1, P.2.1, P.2.2.1, va_up P.2.2.2.1 i f, P.2.2.2.2)
def uI (P : am_S) (i : Nat) (f : Nat → Int32) : am_S := (P.1, P.2.1, P.2.2.1, P.2.2.2.1, va_up P.2.2.2.2.1 i f, P.2.2.2.2.2)
def uJ (P : am_S) (i : Nat) (f : Nat → Int64) : am_S := (P.1, P.2.1, P.2.2.1, P.2.2.2.1, P.2.2.2.2.1, va_up P.2.2.2.2.2 i f)
def tf (T : am_T) (i : Nat) (v : Value) : am_T := (va_up T.1 i v, T.2)
def mf (P : am_S) (t : Nat → Value) (i : Nat) : Value := match i with
  | 1 => .long (sj P 0)
  | 2 => .int (si P 0)
  | 3 => .int (si P 1)
  | 4 => .ref 24
  | 5 => .ref 25
  | 6 => .int (Int32.ofNat (sn P 0))
  | 11 => .ref 26
  | 12 => .ref 27
  | 13 => .ref 28
  | 14 => .ref 29
  | 15 => .int (Int32.ofNat (sn P 1))
  | 16 => .int (Int32.ofNat (sn P 2))
  | 17 => .int (Int32.ofNat (sn P 3))
  | 18 => .int (si P 2)
  | 19 => .int (si P 3)
  | 20 => .int (si P 4)
  | 21 => .ref 30
  | 22 => .ref 31
  | 23 => .ref 32
  | 24 => .int (ru P)
  | 25 => .int (Int32.ofNat (sn P 4))
  | 26 => .int (Int32.ofNat (sn P 5))
  | 27 => .ref 33
  | 28 => .ref 34
  | 29 => .ref 35
  | 30 => .ref 36
  | 31 => .ref 37
  | 32 => .ref 38
  | 33 => .ref 39
  | 34 => .ref 40
  | 35 => .ref 41
  | 36 => .ref 42
  | 37 => .ref 43
  | 38 => .ref 44
  | 39 => .long (sj P 1)
  | 40 => .long (sj P 2)
  | 41 => .int (si P 5)
  | i => t i
def mm (P : am_S) (T : am_T) (a : Nat) : va_E := match a with
  | 23 => ob 8 44 (mf P T.1)
  | 24 => .inl (0, 20, .inl (sI P 0))
  | 25 => .inl (0, 20, .inl (sI P 1))
  | 26 => .inl (1, 10, .inr (.inl (sJ P 0)))
  | 27 => .inl (1, 10, .inr (.inl (sJ P 1)))
  | 28 => .inl (1, 6, .inr (.inl (sJ P 2)))
  | 29 => .inl (0, 10, .inl (fun k => Int32.ofNat (sN P 0 k)))
  | 30 => .inl (1, 6, .inr (.inl T.2.1))
  | 31 => .inl (1, 6, .inr (.inl T.2.2.1))
  | 32 => .inl (0, 6, .inl T.2.2.2)
  | 33 => .inl (0, 20, .inl (fun k => Int32.ofNat (sN P 1 k)))
  | 34 => .inl (0, 20, .inl (fun k => Int32.ofNat (sN P 2 k)))
  | 35 => .inl (0, 20, .inl (sI P 2))
  | 36 => .inl (1, 120, .inr (.inl (sJ P 3)))
  | 37 => .inl (1, 20, .inr (.inl (sJ P 4)))
  | 38 => .inl (1, 20, .inr (.inl (sJ P 5)))
  | 39 => .inl (1, 20, .inr (.inl (sJ P 6)))
  | 40 => .inl (2, 20, .inl (fun k => Int32.ofNat (sN P 4 k)))
  | 41 => .inl (0, 100, .inl (fun k => Int32.ofNat (sN P 3 k)))
  | 42 => .inl (0, 100, .inl (sI P 3))
  | 43 => .inl (0, 600, .inl (sI P 4))
  | 44 => .inl (1, 100, .inr (.inl (sJ P 7)))
  | _ => am_junk
theorem mf_0 (P : am_S) (t : Nat → Value) : mf P t 0 = t 0 := rfl
theorem mf_1 (P : am_S) (t : Nat → Value) : mf P t 1 = .long (sj P 0) := rfl
theorem mf_2 (P : am_S) (t : Nat → Value) : mf P t 2 = .int (si P 0) := rfl
theorem mf_3 (P : am_S) (t : Nat → Value) : mf P t 3 = .int (si P 1) := rfl
theorem mf_4 (P : am_S) (t : Nat → Value) : mf P t 4 = .ref 24 := rfl
theorem mf_5 (P : am_S) (t : Nat → Value) : mf P t 5 = .ref 25 := rfl
theorem mf_6 (P : am_S) (t : Nat → Value) : mf P t 6 = .int (Int32.ofNat (sn P 0)) := rfl
theorem mf_7 (P : am_S) (t : Nat → Value) : mf P t 7 = t 7 := rfl
theorem mf_8 (P : am_S) (t : Nat → Value) : mf P t 8 = t 8 := rfl
theorem mf_9 (P : am_S) (t : Nat → Value) : mf P t 9 = t 9 := rfl
theorem mf_10 (P : am_S) (t : Nat → Value) : mf P t 10 = t 10 := rfl
theorem mf_11 (P : am_S) (t : Nat → Value) : mf P t 11 = .ref 26 := rfl
theorem mf_12 (P : am_S) (t : Nat → Value) : mf P t 12 = .ref 27 := rfl
theorem mf_13 (P : am_S) (t : Nat → Value) : mf P t 13 = .ref 28 := rfl
theorem mf_14 (P : am_S) (t : Nat → Value) : mf P t 14 = .ref 29 := rfl
theorem mf_15 (P : am_S) (t : Nat → Value) : mf P t 15 = .int (Int32.ofNat (sn P 1)) := rfl
theorem mf_16 (P : am_S) (t : Nat → Value) : mf P t 16 = .int (Int32.ofNat (sn P 2)) := rfl
theorem mf_17 (P : am_S) (t : Nat → Value) : mf P t 17 = .int (Int32.ofNat (sn P 3)) := rfl
theorem mf_18 (P : am_S) (t : Nat → Value) : mf P t 18 = .int (si P 2) := rfl
theorem mf_19 (P : am_S) (t : Nat → Value) : mf P t 19 = .int (si P 3) := rfl
theorem mf_20 (P : am_S) (t : Nat → Value) : mf P t 20 = .int (si P 4) := rfl
theorem mf_21 (P : am_S) (t : Nat → Value) : mf P t 21 = .ref 30 := rfl
theorem mf_22 (P : am_S) (t : Nat → Value) : mf P t 22 = .ref 31 := rfl
theorem mf_23 (P : am_S) (t : Nat → Value) : mf P t 23 = .ref 32 := rfl
theorem mf_24 (P : am_S) (t : Nat → Value) : mf P t 24 = .int (ru P) := rfl
theorem mf_25 (P : am_S) (t : Nat → Value) : mf P t 25 = .int (Int32.ofNat (sn P 4)) := rfl
theorem mf_26 (P : am_S) (t : Nat → Value) : mf P t 26 = .int (Int32.ofNat (sn P 5)) := rfl
theorem mf_27 (P : am_S) (t : Nat → Value) : mf P t 27 = .ref 33 := rfl
theorem mf_28 (P : am_S) (t : Nat → Value) : mf P t 28 = .ref 34 := rfl
theorem mf_29 (P : am_S) (t : Nat → Value) : mf P t 29 = .ref 35 := rfl
theorem mf_30 (P : am_S) (t : Nat → Value) : mf P t 30 = .ref 36 := rfl
theorem mf_31 (P : am_S) (t : Nat → Value) : mf P t 31 = .ref 37 := rfl
theorem mf_32 (P : am_S) (t : Nat → Value) : mf P t 32 = .ref 38 := rfl
theorem mf_33 (P : am_S) (t : Nat → Value) : mf P t 33 = .ref 39 := rfl
theorem mf_34 (P : am_S) (t : Nat → Value) : mf P t 34 = .ref 40 := rfl
theorem mf_35 (P : am_S) (t : Nat → Value) : mf P t 35 = .ref 41 := rfl
theorem mf_36 (P : am_S) (t : Nat → Value) : mf P t 36 = .ref 42 := rfl
theorem mf_37 (P : am_S) (t : Nat → Value) : mf P t 37 = .ref 43 := rfl
theorem mf_38 (P : am_S) (t : Nat → Value) : mf P t 38 = .ref 44 := rfl
theorem mf_39 (P : am_S) (t : Nat → Value) : mf P t 39 = .long (sj P 1) := rfl
theorem mf_40 (P : am_S) (t : Nat → Value) : mf P t 40 = .long (sj P 2) := rfl
theorem mf_41 (P : am_S) (t : Nat → Value) : mf P t 41 = .int (si P 5) := rfl
theorem mf_42 (P : am_S) (t : Nat → Value) : mf P t 42 = t 42 := rfl
theorem mf_43 (P : am_S) (t : Nat → Value) : mf P t 43 = t 43 := rfl
theorem mm_23 {P : am_S} {T : am_T} {M : am_M} (h : 47 ≤ M.1 ∧ ∀ a, 23 ≤ a → a ≤ 44 → am_f M a = mm P T a) : am_f M 23 = ob 8 44 (mf P T.1) := h.2 23 (by decide) (by decide)
theorem mm_24 {P : am_S} {T : am_T} {M : am_M} (h : 47 ≤ M.1 ∧ ∀ a, 23 ≤ a → a ≤ 44 → am_f M a = mm P T a) : am_f M 24 = .inl (0, 20, .inl (sI P 0)) := h.2 24 (by decide) (by decide)
theorem mm_25 {P : am_S} {T : am_T} {M : am_M} (h : 47 ≤ M.1 ∧ ∀ a, 23 ≤ a → a ≤ 44 → am_f M a = mm P T a) : am_f M 25 = .inl (0, 20, .inl (sI P 1)) := h.2 25 (by decide) (by decide)
theorem mm_26 {P : am_S} {T : am_T} {M : am_M} (h : 47 ≤ M.1 ∧ ∀ a, 23 ≤ a → a ≤ 44 → am_f M a = mm P T a) : am_f M 26 = .inl (1, 10, .inr (.inl (sJ P 0))) := h.2 26 (by decide) (by decide)
theorem mm_27 {P : am_S} {T : am_T} {M : am_M} (h : 47 ≤ M.1 ∧ ∀ a, 23 ≤ a → a ≤ 44 → am_f M a = mm P T a) : am_f M 27 = .inl (1, 10, .inr (.inl (sJ P 1))) := h.2 27 (by decide) (by decide)
theorem mm_28 {P : am_S} {T : am_T} {M : am_M} (h : 47 ≤ M.1 ∧ ∀ a, 23 ≤ a → a ≤ 44 → am_f M a = mm P T a) : am_f M 28 = .inl (1, 6, .inr (.inl (sJ P 2))) := h.2 28 (by decide) (by decide)
theorem mm_29 {P : am_S} {T : am_T} {M : am_M} (h : 47 ≤ M.1 ∧ ∀ a, 23 ≤ a → a ≤ 44 → am_f M a = mm P T a) : am_f M 29 = .inl (0, 10, .inl (fun k => Int32.ofNat (sN P 0 k))) := h.2 29 (by decide) (by decide)
theorem mm_30 {P : am_S} {T : am_T} {M : am_M} (h : 47 ≤ M.1 ∧ ∀ a, 23 ≤ a → a ≤ 44 → am_f M a = mm P T a) : am_f M 30 = .inl (1, 6, .inr (.inl T.2.1)) := h.2 30 (by decide) (by decide)
theorem mm_31 {P : am_S} {T : am_T} {M : am_M} (h : 47 ≤ M.1 ∧ ∀ a, 23 ≤ a → a ≤ 44 → am_f M a = mm P T a) : am_f M 31 = .inl (1, 6, .inr (.inl T.2.2.1)) := h.2 31 (by decide) (by decide)
theorem mm_32 {P : am_S} {T : am_T} {M : am_M} (h : 47 ≤ M.1 ∧ ∀ a, 23 ≤ a → a ≤ 44 → am_f M a = mm P T a) : am_f M 32 = .inl (0, 6, .inl T.2.2.2) := h.2 32 (by decide) (by decide)
theorem mm_33 {P : am_S} {T : am_T} {M : am_M} (h : 47 ≤ M.1 ∧ ∀ a, 23 ≤ a → a ≤ 44 → am_f M a = mm P T a) : am_f M 33 = .inl (0, 20, .inl (fun k => Int32.ofNat (sN P 1 k))) := h.2 33 (by decide) (by decide)
theorem mm_34 {P : am_S} {T : am_T} {M : am_M} (h : 47 ≤ M.1 ∧ ∀ a, 23 ≤ a → a ≤ 44 → am_f M a = mm P T a) : am_f M 34 = .inl (0, 20, .inl (fun k => Int32.ofNat (sN P 2 k))) := h.2 34 (by decide) (by decide)
theorem mm_35 {P : am_S} {T : am_T} {M : am_M} (h : 47 ≤ M.1 ∧ ∀ a, 23 ≤ a → a ≤ 44 → am_f M a = mm P T a) : am_f M 35 = .inl (0, 20, .inl (sI P 2)) := h.2 35 (by decide) (by decide)
theorem mm_36 {P : am_S} {T : am_T} {M : am_M} (h : 47 ≤ M.1 ∧ ∀ a, 23 ≤ a → a ≤ 44 → am_f M a = mm P T a) : am_f M 36 = .inl (1, 120, .inr (.inl (sJ P 3))) := h.2 36 (by decide) (by decide)
theorem mm_37 {P : am_S} {T : am_T} {M : am_M} (h : 47 ≤ M.1 ∧ ∀ a, 23 ≤ a → a ≤ 44 → am_f M a = mm P T a) : am_f M 37 = .inl (1, 20, .inr (.inl (sJ P 4))) := h.2 37 (by decide) (by decide)
theorem mm_38 {P : am_S} {T : am_T} {M : am_M} (h : 47 ≤ M.1 ∧ ∀ a, 23 ≤ a → a ≤ 44 → am_f M a = mm P T a) : am_f M 38 = .inl (1, 20, .inr (.inl (sJ P 5))) := h.2 38 (by decide) (by decide)
theorem mm_39 {P : am_S} {T : am_T} {M : am_M} (h : 47 ≤ M.1 ∧ ∀ a, 23 ≤ a → a ≤ 44 → am_f M a = mm P T a) : am_f M 39 = .inl (1, 20, .inr (.inl (sJ P 6))) := h.2 39 (by decide) (by decide)
theorem mm_40 {P : am_S} {T : am_T} {M : am_M} (h : 47 ≤ M.1 ∧ ∀ a, 23 ≤ a → a ≤ 44 → am_f M a = mm P T a) : am_f M 40 = .inl (2, 20, .inl (fun k => Int32.ofNat (sN P 4 k))) := h.2 40 (by decide) (by decide)
theorem mm_41 {P : am_S} {T : am_T} {M : am_M} (h : 47 ≤ M.1 ∧ ∀ a, 23 ≤ a → a ≤ 44 → am_f M a = mm P T a) : am_f M 41 = .inl (0, 100, .inl (fun k => Int32.ofNat (sN P 3 k))) := h.2 41 (by decide) (by decide)
theorem mm_42 {P : am_S} {T : am_T} {M : am_M} (h : 47 ≤ M.1 ∧ ∀ a, 23 ≤ a → a ≤ 44 → am_f M a = mm P T a) : am_f M 42 = .inl (0, 100, .inl (sI P 3)) := h.2 42 (by decide) (by decide)
theorem mm_43 {P : am_S} {T : am_T} {M : am_M} (h : 47 ≤ M.1 ∧ ∀ a, 23 ≤ a → a ≤ 44 → am_f M a = mm P T a) : am_f M 43 = .inl (0, 600, .inl (sI P 4)) := h.2 43 (by decide) (by decide)
theorem mm_44 {P : am_S} {T : am_T} {M : am_M} (h : 47 ≤ M.1 ∧ ∀ a, 23 ≤ a → a ≤ 44 → am_f M a = mm P T a) : am_f M 44 = .inl (1, 100, .inr (.inl (sJ P 7))) := h.2 44 (by decide) (by decide)
def mRep (P : am_S) (T : am_T) (M : am_M) : Prop := 47 ≤ M.1 ∧ ∀ a, 23 ≤ a → a ≤ 44 → am_f M a = mm P T a
def mFr (M M' : am_M) : Prop := M'.1 = M.1 ∧ M'.2.1 = M.2.1 ∧ M'.2.2.1 = M.2.2.1 ∧ ∀ a, a < 23 ∨ 44 < a → am_f M' a = am_f M a
theorem mFr.rf (M : am_M) : mFr M M := ⟨rfl, rfl, rfl, fun _ _ => rfl⟩
theorem mFr.tr {M M' M'' : am_M} (h : mFr M M') (g : mFr M' M'') : mFr M M'' := ⟨g.1.trans h.1, g.2.1.trans h.2.1, g.2.2.1.trans h.2.2.1, fun a ha => (g.2.2.2 a ha).trans (h.2.2.2 a ha)⟩
theorem mFr.set {M : am_M} {a : Nat} {e : va_E} (h1 : 23 ≤ a) (h2 : a ≤ 44) : mFr M (am_set M a e) := ⟨rfl, rfl, rfl, fun c hc => by rw [q_set, if_neg (by omega)]⟩
theorem mRep.set {P P' : am_S} {T T' : am_T} {M : am_M} (h : mRep P T M) (a : Nat) {e : va_E} (h1 : 23 ≤ a) (h2 : a ≤ 44) (he : e = mm P' T' a) (ho : ∀ c, 23 ≤ c → c ≤ 44 → c ≠ a → mm P' T' c = mm P T c) : mRep P' T' (am_set M a e) := by
  refine ⟨h.1, fun c hc1 hc2 => ?_⟩
  rw [q_set]
  split
  · rename_i hca
    rw [hca]; exact he
  · rename_i hca
    rw [h.2 c hc1 hc2, ho c hc1 hc2 hca]
theorem m_all {Q : Nat → Prop} (h : Q 23 ∧ Q 24 ∧ Q 25 ∧ Q 26 ∧ Q 27 ∧ Q 28 ∧ Q 29 ∧ Q 30 ∧ Q 31 ∧ Q 32 ∧ Q 33 ∧ Q 34 ∧ Q 35 ∧ Q 36 ∧ Q 37 ∧ Q 38 ∧ Q 39 ∧ Q 40 ∧ Q 41 ∧ Q 42 ∧ Q 43 ∧ Q 44) : ∀ c, 23 ≤ c → c ≤ 44 → Q c := by
  intro c h1 h2
  obtain ⟨h23, h24, h25, h26, h27, h28, h29, h30, h31, h32, h33, h34, h35, h36, h37, h38, h39, h40, h41, h42, h43, h44⟩ := h
  have : c = 23 ∨ c = 24 ∨ c = 25 ∨ c = 26 ∨ c = 27 ∨ c = 28 ∨ c = 29 ∨ c = 30 ∨ c = 31 ∨ c = 32 ∨ c = 33 ∨ c = 34 ∨ c = 35 ∨ c = 36 ∨ c = 37 ∨ c = 38 ∨ c = 39 ∨ c = 40 ∨ c = 41 ∨ c = 42 ∨ c = 43 ∨ c = 44 := by omega
  rcases this with rfl | rfl | rfl | rfl | rfl | rfl | rfl | rfl | rfl | rfl | rfl | rfl | rfl | rfl | rfl | rfl | rfl | rfl | rfl | rfl | rfl | rfl <;> assumption
/-- only the model's own object changes -/
theorem mRep.fld {P P' : am_S} {T T' : am_T} {M : am_M} (h : mRep P T M) {f : Nat → Value} (he : ob 8 44 f = ob 8 44 (mf P' T'.1)) (hN : P'.2.2.2 = P.2.2.2) (hT : T'.2 = T.2) : mRep P' T' (am_set M 23 (ob 8 44 f)) := by
  refine h.set 23 (by decide) (by decide) he ?_
  obtain ⟨n, i, j, Q⟩ := P
  obtain ⟨n', i', j', Q'⟩ := P'
  obtain ⟨t, G⟩ := T
  obtain ⟨t', G'⟩ := T'
  cases hN
  cases hT
  exact m_all (Q := fun c => c ≠ 23 → mm (n', i', j', Q) (t', G) c = mm (n, i, j, Q) (t, G) c) ⟨fun z => absurd rfl z, fun _ => rfl, fun _ => rfl, fun _ => rfl, fun _ => rfl, fun _ => rfl, fun _ => rfl, fun _ => rfl, fun _ => rfl, fun _ => rfl, fun _ => rfl, fun _ => rfl, fun _ => rfl, fun _ => rfl, fun _ => rfl, fun _ => rfl, fun _ => rfl, fun _ => rfl, fun _ => rfl, fun _ => rfl, fun _ => rfl, fun _ => rfl⟩
/-- a method of the model: what it answers, what it leaves, the place of its exception -/
def mOp (k : Nat) (as : List Value) (P P' : am_S) (v : Option Value) (thr : Int32) : Prop :=
  ∀ (d : Nat) (M : am_M) (T : am_T), mRep P T M → ∃ (M' : am_M) (T' : am_T), am_Call (d + 8) k (.ref 23 :: as) M (.inl v, M') ∧ mRep P' T' M' ∧ mFr M M' ∧ T'.1 0 = .int thr
