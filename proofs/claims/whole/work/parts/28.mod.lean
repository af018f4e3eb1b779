/-! the abstract state, and how the model holds it -/
/-- counts, ints, longs; arrays of counts, of ints, of longs -/
abbrev am_S : Type := (Nat → Nat) × (Nat → Int32) × (Nat → Int64) × (Nat → Nat → Nat) × (Nat → Nat → Int32) × (Nat → Nat → Int64)
abbrev am_T : Type := (Nat → Value) × (Nat → Int64) × (Nat → Int64) × (Nat → Int32)
/-- 0 segments, 1 calibrations, 2 station, 3 tones, 4 passes, 5 observations, 6 whether a pass runs -/
def sn (P : am_S) : Nat → Nat := P.1
/-- 0 rate, 1 time, 2 doppler, 3 noise, 4 seed, 5 window -/
def si (P : am_S) : Nat → Int32 := P.2.1
/-- 0 range, 1 prior, 2 threshold -/
def sj (P : am_S) : Nat → Int64 := P.2.2.1
/-- 0 calibrated, 1 the passes' stations, 2 the passes' tones, 3 the observations' passes, 4 whether joined -/
def sN (P : am_S) : Nat → Nat → Nat := P.2.2.2.1
/-- 0 seconds, 1 accelerations, 2 the passes' doppler, 3 times, 4 phases -/
def sI (P : am_S) : Nat → Nat → Int32 := P.2.2.2.2.1
/-- 0 delays, 1 estimates, 2 tones, 3 the passes' tones, 4 begins, 5 slips, 6 ambiguities, 7 the observations' counts -/
def sJ (P : am_S) : Nat → Nat → Int64 := P.2.2.2.2.2
def ru (P : am_S) : Int32 := if sn P 6 = 0 then -1 else Int32.ofNat (sn P 4 - 1)
def un (P : am_S) (i v : Nat) : am_S := (va_up P.1 i v, P.2)
def ui (P : am_S) (i : Nat) (v : Int32) : am_S := (P.1, va_up P.2.1 i v, P.2.2)
def uj (P : am_S) (i : Nat) (v : Int64) : am_S := (P.1, P.2.1, va_up P.2.2.1 i v, P.2.2.2)
def uN (P : am_S) (i : Nat) (f : Nat → Nat) : am_S := (P.1, P.2.1, P.2.2.1, va_up P.2.2.2.1 i f, P.2.2.2.2)
def uI (P : am_S) (i : Nat) (f : Nat → Int32) : am_S := (P.1, P.2.1, P.2.2.1, P.2.2.2.1, va_up P.2.2.2.2.1 i f, P.2.2.2.2.2)
def uJ (P : am_S) (i : Nat) (f : Nat → Int64) : am_S := (P.1, P.2.1, P.2.2.1, P.2.2.2.1, P.2.2.2.2.1, va_up P.2.2.2.2.2 i f)
def tf (T : am_T) (i : Nat) (v : Value) : am_T := (va_up T.1 i v, T.2)
def mf (P : am_S) (t : Nat → Value) (i : Nat) : Value := match i with
  | 1 => .long (sj P 0)
  | 2 => .int (si P 0)
  | 3 => .int (si P 1)
  | 4 => .ref 24
  | 5 => .ref 25
  | 6 => .int (Int32.ofNat (sn P 0))
  | 11 => .ref 26
  | 12 => .ref 27
  | 13 => .ref 28
  | 14 => .ref 29
  | 15 => .int (Int32.ofNat (sn P 1))
  | 16 => .int (Int32.ofNat (sn P 2))
  | 17 => .int (Int32.ofNat (sn P 3))
  | 18 => .int (si P 2)
  | 19 => .int (si P 3)
  | 20 => .int (si P 4)
  | 21 => .ref 30
  | 22 => .ref 31
  | 23 => .ref 32
  | 24 => .int (ru P)
  | 25 => .int (Int32.ofNat (sn P 4))
  | 26 => .int (Int32.ofNat (sn P 5))
  | 27 => .ref 33
  | 28 => .ref 34
  | 29 => .ref 35
  | 30 => .ref 36
  | 31 => .ref 37
  | 32 => .ref 38
  | 33 => .ref 39
  | 34 => .ref 40
  | 35 => .ref 41
  | 36 => .ref 42
  | 37 => .ref 43
  | 38 => .ref 44
  | 39 => .long (sj P 1)
  | 40 => .long (sj P 2)
  | 41 => .int (si P 5)
  | i => t i
def mm (P : am_S) (T : am_T) (a : Nat) : va_E := match a with
  | 23 => ob 8 44 (mf P T.1)
  | 24 => .inl (0, 20, .inl (sI P 0))
  | 25 => .inl (0, 20, .inl (sI P 1))
  | 26 => .inl (1, 10, .inr (.inl (sJ P 0)))
  | 27 => .inl (1, 10, .inr (.inl (sJ P 1)))
  | 28 => .inl (1, 6, .inr (.inl (sJ P 2)))
  | 29 => .inl (0, 10, .inl (fun k => Int32.ofNat (sN P 0 k)))
  | 30 => .inl (1, 6, .inr (.inl T.2.1))
  | 31 => .inl (1, 6, .inr (.inl T.2.2.1))
  | 32 => .inl (0, 6, .inl T.2.2.2)
  | 33 => .inl (0, 20, .inl (fun k => Int32.ofNat (sN P 1 k)))
  | 34 => .inl (0, 20, .inl (fun k => Int32.ofNat (sN P 2 k)))
  | 35 => .inl (0, 20, .inl (sI P 2))
  | 36 => .inl (1, 120, .inr (.inl (sJ P 3)))
  | 37 => .inl (1, 20, .inr (.inl (sJ P 4)))
  | 38 => .inl (1, 20, .inr (.inl (sJ P 5)))
  | 39 => .inl (1, 20, .inr (.inl (sJ P 6)))
  | 40 => .inl (2, 20, .inl (fun k => Int32.ofNat (sN P 4 k)))
  | 41 => .inl (0, 100, .inl (fun k => Int32.ofNat (sN P 3 k)))
  | 42 => .inl (0, 100, .inl (sI P 3))
  | 43 => .inl (0, 600, .inl (sI P 4))
  | 44 => .inl (1, 100, .inr (.inl (sJ P 7)))
  | _ => am_junk
theorem mf_0 (P : am_S) (t : Nat → Value) : mf P t 0 = t 0 := rfl
theorem mf_1 (P : am_S) (t : Nat → Value) : mf P t 1 = .long (sj P 0) := rfl
theorem mf_2 (P : am_S) (t : Nat → Value) : mf P t 2 = .int (si P 0) := rfl
theorem mf_3 (P : am_S) (t : Nat → Value) : mf P t 3 = .int (si P 1) := rfl
theorem mf_4 (P : am_S) (t : Nat → Value) : mf P t 4 = .ref 24 := rfl
theorem mf_5 (P : am_S) (t : Nat → Value) : mf P t 5 = .ref 25 := rfl
theorem mf_6 (P : am_S) (t : Nat → Value) : mf P t 6 = .int (Int32.ofNat (sn P 0)) := rfl
theorem mf_7 (P : am_S) (t : Nat → Value) : mf P t 7 = t 7 := rfl
theorem mf_8 (P : am_S) (t : Nat → Value) : mf P t 8 = t 8 := rfl
theorem mf_9 (P : am_S) (t : Nat → Value) : mf P t 9 = t 9 := rfl
theorem mf_10 (P : am_S) (t : Nat → Value) : mf P t 10 = t 10 := rfl
theorem mf_11 (P : am_S) (t : Nat → Value) : mf P t 11 = .ref 26 := rfl
theorem mf_12 (P : am_S) (t : Nat → Value) : mf P t 12 = .ref 27 := rfl
theorem mf_13 (P : am_S) (t : Nat → Value) : mf P t 13 = .ref 28 := rfl
theorem mf_14 (P : am_S) (t : Nat → Value) : mf P t 14 = .ref 29 := rfl
theorem mf_15 (P : am_S) (t : Nat → Value) : mf P t 15 = .int (Int32.ofNat (sn P 1)) := rfl
theorem mf_16 (P : am_S) (t : Nat → Value) : mf P t 16 = .int (Int32.ofNat (sn P 2)) := rfl
theorem mf_17 (P : am_S) (t : Nat → Value) : mf P t 17 = .int (Int32.ofNat (sn P 3)) := rfl
theorem mf_18 (P : am_S) (t : Nat → Value) : mf P t 18 = .int (si P 2) := rfl
theorem mf_19 (P : am_S) (t : Nat → Value) : mf P t 19 = .int (si P 3) := rfl
theorem mf_20 (P : am_S) (t : Nat → Value) : mf P t 20 = .int (si P 4) := rfl
theorem mf_21 (P : am_S) (t : Nat → Value) : mf P t 21 = .ref 30 := rfl
theorem mf_22 (P : am_S) (t : Nat → Value) : mf P t 22 = .ref 31 := rfl
theorem mf_23 (P : am_S) (t : Nat → Value) : mf P t 23 = .ref 32 := rfl
theorem mf_24 (P : am_S) (t : Nat → Value) : mf P t 24 = .int (ru P) := rfl
theorem mf_25 (P : am_S) (t : Nat → Value) : mf P t 25 = .int (Int32.ofNat (sn P 4)) := rfl
theorem mf_26 (P : am_S) (t : Nat → Value) : mf P t 26 = .int (Int32.ofNat (sn P 5)) := rfl
theorem mf_27 (P : am_S) (t : Nat → Value) : mf P t 27 = .ref 33 := rfl
theorem mf_28 (P : am_S) (t : Nat → Value) : mf P t 28 = .ref 34 := rfl
theorem mf_29 (P : am_S) (t : Nat → Value) : mf P t 29 = .ref 35 := rfl
theorem mf_30 (P : am_S) (t : Nat → Value) : mf P t 30 = .ref 36 := rfl
theorem mf_31 (P : am_S) (t : Nat → Value) : mf P t 31 = .ref 37 := rfl
theorem mf_32 (P : am_S) (t : Nat → Value) : mf P t 32 = .ref 38 := rfl
theorem mf_33 (P : am_S) (t : Nat → Value) : mf P t 33 = .ref 39 := rfl
theorem mf_34 (P : am_S) (t : Nat → Value) : mf P t 34 = .ref 40 := rfl
theorem mf_35 (P : am_S) (t : Nat → Value) : mf P t 35 = .ref 41 := rfl
theorem mf_36 (P : am_S) (t : Nat → Value) : mf P t 36 = .ref 42 := rfl
theorem mf_37 (P : am_S) (t : Nat → Value) : mf P t 37 = .ref 43 := rfl
theorem mf_38 (P : am_S) (t : Nat → Value) : mf P t 38 = .ref 44 := rfl
theorem mf_39 (P : am_S) (t : Nat → Value) : mf P t 39 = .long (sj P 1) := rfl
theorem mf_40 (P : am_S) (t : Nat → Value) : mf P t 40 = .long (sj P 2) := rfl
theorem mf_41 (P : am_S) (t : Nat → Value) : mf P t 41 = .int (si P 5) := rfl
theorem mf_42 (P : am_S) (t : Nat → Value) : mf P t 42 = t 42 := rfl
theorem mf_43 (P : am_S) (t : Nat → Value) : mf P t 43 = t 43 := rfl
theorem mm_23 {P : am_S} {T : am_T} {M : am_M} (h : 47 ≤ M.1 ∧ ∀ a, 23 ≤ a → a ≤ 44 → am_f M a = mm P T a) : am_f M 23 = ob 8 44 (mf P T.1) := h.2 23 (by decide) (by decide)
theorem mm_24 {P : am_S} {T : am_T} {M : am_M} (h : 47 ≤ M.1 ∧ ∀ a, 23 ≤ a → a ≤ 44 → am_f M a = mm P T a) : am_f M 24 = .inl (0, 20, .inl (sI P 0)) := h.2 24 (by decide) (by decide)
theorem mm_25 {P : am_S} {T : am_T} {M : am_M} (h : 47 ≤ M.1 ∧ ∀ a, 23 ≤ a → a ≤ 44 → am_f M a = mm P T a) : am_f M 25 = .inl (0, 20, .inl (sI P 1)) := h.2 25 (by decide) (by decide)
theorem mm_26 {P : am_S} {T : am_T} {M : am_M} (h : 47 ≤ M.1 ∧ ∀ a, 23 ≤ a → a ≤ 44 → am_f M a = mm P T a) : am_f M 26 = .inl (1, 10, .inr (.inl (sJ P 0))) := h.2 26 (by decide) (by decide)
theorem mm_27 {P : am_S} {T : am_T} {M : am_M} (h : 47 ≤ M.1 ∧ ∀ a, 23 ≤ a → a ≤ 44 → am_f M a = mm P T a) : am_f M 27 = .inl (1, 10, .inr (.inl (sJ P 1))) := h.2 27 (by decide) (by decide)
theorem mm_28 {P : am_S} {T : am_T} {M : am_M} (h : 47 ≤ M.1 ∧ ∀ a, 23 ≤ a → a ≤ 44 → am_f M a = mm P T a) : am_f M 28 = .inl (1, 6, .inr (.inl (sJ P 2))) := h.2 28 (by decide) (by decide)
theorem mm_29 {P : am_S} {T : am_T} {M : am_M} (h : 47 ≤ M.1 ∧ ∀ a, 23 ≤ a → a ≤ 44 → am_f M a = mm P T a) : am_f M 29 = .inl (0, 10, .inl (fun k => Int32.ofNat (sN P 0 k))) := h.2 29 (by decide) (by decide)
theorem mm_30 {P : am_S} {T : am_T} {M : am_M} (h : 47 ≤ M.1 ∧ ∀ a, 23 ≤ a → a ≤ 44 → am_f M a = mm P T a) : am_f M 30 = .inl (1, 6, .inr (.inl T.2.1)) := h.2 30 (by decide) (by decide)
theorem mm_31 {P : am_S} {T : am_T} {M : am_M} (h : 47 ≤ M.1 ∧ ∀ a, 23 ≤ a → a ≤ 44 → am_f M a = mm P T a) : am_f M 31 = .inl (1, 6, .inr (.inl T.2.2.1)) := h.2 31 (by decide) (by decide)
theorem mm_32 {P : am_S} {T : am_T} {M : am_M} (h : 47 ≤ M.1 ∧ ∀ a, 23 ≤ a → a ≤ 44 → am_f M a = mm P T a) : am_f M 32 = .inl (0, 6, .inl T.2.2.2) := h.2 32 (by decide) (by decide)
theorem mm_33 {P : am_S} {T : am_T} {M : am_M} (h : 47 ≤ M.1 ∧ ∀ a, 23 ≤ a → a ≤ 44 → am_f M a = mm P T a) : am_f M 33 = .inl (0, 20, .inl (fun k => Int32.ofNat (sN P 1 k))) := h.2 33 (by decide) (by decide)
theorem mm_34 {P : am_S} {T : am_T} {M : am_M} (h : 47 ≤ M.1 ∧ ∀ a, 23 ≤ a → a ≤ 44 → am_f M a = mm P T a) : am_f M 34 = .inl (0, 20, .inl (fun k => Int32.ofNat (sN P 2 k))) := h.2 34 (by decide) (by decide)
theorem mm_35 {P : am_S} {T : am_T} {M : am_M} (h : 47 ≤ M.1 ∧ ∀ a, 23 ≤ a → a ≤ 44 → am_f M a = mm P T a) : am_f M 35 = .inl (0, 20, .inl (sI P 2)) := h.2 35 (by decide) (by decide)
theorem mm_36 {P : am_S} {T : am_T} {M : am_M} (h : 47 ≤ M.1 ∧ ∀ a, 23 ≤ a → a ≤ 44 → am_f M a = mm P T a) : am_f M 36 = .inl (1, 120, .inr (.inl (sJ P 3))) := h.2 36 (by decide) (by decide)
theorem mm_37 {P : am_S} {T : am_T} {M : am_M} (h : 47 ≤ M.1 ∧ ∀ a, 23 ≤ a → a ≤ 44 → am_f M a = mm P T a) : am_f M 37 = .inl (1, 20, .inr (.inl (sJ P 4))) := h.2 37 (by decide) (by decide)
theorem mm_38 {P : am_S} {T : am_T} {M : am_M} (h : 47 ≤ M.1 ∧ ∀ a, 23 ≤ a → a ≤ 44 → am_f M a = mm P T a) : am_f M 38 = .inl (1, 20, .inr (.inl (sJ P 5))) := h.2 38 (by decide) (by decide)
theorem mm_39 {P : am_S} {T : am_T} {M : am_M} (h : 47 ≤ M.1 ∧ ∀ a, 23 ≤ a → a ≤ 44 → am_f M a = mm P T a) : am_f M 39 = .inl (1, 20, .inr (.inl (sJ P 6))) := h.2 39 (by decide) (by decide)
theorem mm_40 {P : am_S} {T : am_T} {M : am_M} (h : 47 ≤ M.1 ∧ ∀ a, 23 ≤ a → a ≤ 44 → am_f M a = mm P T a) : am_f M 40 = .inl (2, 20, .inl (fun k => Int32.ofNat (sN P 4 k))) := h.2 40 (by decide) (by decide)
theorem mm_41 {P : am_S} {T : am_T} {M : am_M} (h : 47 ≤ M.1 ∧ ∀ a, 23 ≤ a → a ≤ 44 → am_f M a = mm P T a) : am_f M 41 = .inl (0, 100, .inl (fun k => Int32.ofNat (sN P 3 k))) := h.2 41 (by decide) (by decide)
theorem mm_42 {P : am_S} {T : am_T} {M : am_M} (h : 47 ≤ M.1 ∧ ∀ a, 23 ≤ a → a ≤ 44 → am_f M a = mm P T a) : am_f M 42 = .inl (0, 100, .inl (sI P 3)) := h.2 42 (by decide) (by decide)
theorem mm_43 {P : am_S} {T : am_T} {M : am_M} (h : 47 ≤ M.1 ∧ ∀ a, 23 ≤ a → a ≤ 44 → am_f M a = mm P T a) : am_f M 43 = .inl (0, 600, .inl (sI P 4)) := h.2 43 (by decide) (by decide)
theorem mm_44 {P : am_S} {T : am_T} {M : am_M} (h : 47 ≤ M.1 ∧ ∀ a, 23 ≤ a → a ≤ 44 → am_f M a = mm P T a) : am_f M 44 = .inl (1, 100, .inr (.inl (sJ P 7))) := h.2 44 (by decide) (by decide)
def mRep (P : am_S) (T : am_T) (M : am_M) : Prop := 47 ≤ M.1 ∧ ∀ a, 23 ≤ a → a ≤ 44 → am_f M a = mm P T a
def mFr (M M' : am_M) : Prop := M'.1 = M.1 ∧ M'.2.1 = M.2.1 ∧ M'.2.2.1 = M.2.2.1 ∧ ∀ a, a < 23 ∨ 44 < a → am_f M' a = am_f M a
theorem mFr.rf (M : am_M) : mFr M M := ⟨rfl, rfl, rfl, fun _ _ => rfl⟩
theorem mFr.tr {M M' M'' : am_M} (h : mFr M M') (g : mFr M' M'') : mFr M M'' := ⟨g.1.trans h.1, g.2.1.trans h.2.1, g.2.2.1.trans h.2.2.1, fun a ha => (g.2.2.2 a ha).trans (h.2.2.2 a ha)⟩
theorem mFr.set {M : am_M} {a : Nat} {e : va_E} (h1 : 23 ≤ a) (h2 : a ≤ 44) : mFr M (am_set M a e) := ⟨rfl, rfl, rfl, fun c hc => by rw [q_set, if_neg (by omega)]⟩
theorem mRep.set {P P' : am_S} {T T' : am_T} {M : am_M} (h : mRep P T M) (a : Nat) {e : va_E} (h1 : 23 ≤ a) (h2 : a ≤ 44) (he : e = mm P' T' a) (ho : ∀ c, 23 ≤ c → c ≤ 44 → c ≠ a → mm P' T' c = mm P T c) : mRep P' T' (am_set M a e) := by
  refine ⟨h.1, fun c hc1 hc2 => ?_⟩
  rw [q_set]
  split
  · rename_i hca
    rw [hca]; exact he
  · rename_i hca
    rw [h.2 c hc1 hc2, ho c hc1 hc2 hca]
theorem m_all {Q : Nat → Prop} (h : Q 23 ∧ Q 24 ∧ Q 25 ∧ Q 26 ∧ Q 27 ∧ Q 28 ∧ Q 29 ∧ Q 30 ∧ Q 31 ∧ Q 32 ∧ Q 33 ∧ Q 34 ∧ Q 35 ∧ Q 36 ∧ Q 37 ∧ Q 38 ∧ Q 39 ∧ Q 40 ∧ Q 41 ∧ Q 42 ∧ Q 43 ∧ Q 44) : ∀ c, 23 ≤ c → c ≤ 44 → Q c := by
  intro c h1 h2
  obtain ⟨h23, h24, h25, h26, h27, h28, h29, h30, h31, h32, h33, h34, h35, h36, h37, h38, h39, h40, h41, h42, h43, h44⟩ := h
  have : c = 23 ∨ c = 24 ∨ c = 25 ∨ c = 26 ∨ c = 27 ∨ c = 28 ∨ c = 29 ∨ c = 30 ∨ c = 31 ∨ c = 32 ∨ c = 33 ∨ c = 34 ∨ c = 35 ∨ c = 36 ∨ c = 37 ∨ c = 38 ∨ c = 39 ∨ c = 40 ∨ c = 41 ∨ c = 42 ∨ c = 43 ∨ c = 44 := by omega
  rcases this with rfl | rfl | rfl | rfl | rfl | rfl | rfl | rfl | rfl | rfl | rfl | rfl | rfl | rfl | rfl | rfl | rfl | rfl | rfl | rfl | rfl | rfl <;> assumption
/-- only the model's own object changes -/
theorem mRep.fld {P P' : am_S} {T T' : am_T} {M : am_M} (h : mRep P T M) {f : Nat → Value} (he : ob 8 44 f = ob 8 44 (mf P' T'.1)) (hN : P'.2.2.2 = P.2.2.2) (hT : T'.2 = T.2) : mRep P' T' (am_set M 23 (ob 8 44 f)) := by
  refine h.set 23 (by decide) (by decide) he ?_
  obtain ⟨n, i, j, Q⟩ := P
  obtain ⟨n', i', j', Q'⟩ := P'
  obtain ⟨t, G⟩ := T
  obtain ⟨t', G'⟩ := T'
  cases hN
  cases hT
  exact m_all (Q := fun c => c ≠ 23 → mm (n', i', j', Q) (t', G) c = mm (n, i, j, Q) (t, G) c) ⟨fun z => absurd rfl z, fun _ => rfl, fun _ => rfl, fun _ => rfl, fun _ => rfl, fun _ => rfl, fun _ => rfl, fun _ => rfl, fun _ => rfl, fun _ => rfl, fun _ => rfl, fun _ => rfl, fun _ => rfl, fun _ => rfl, fun _ => rfl, fun _ => rfl, fun _ => rfl, fun _ => rfl, fun _ => rfl, fun _ => rfl, fun _ => rfl, fun _ => rfl⟩
/-- a method of the model: what it answers, what it leaves, the place of its exception -/
def mPo (P' : am_S) (v : Option Value) (thr : Int32) (M : am_M) (r : Option Value ⊕ Nat) (M' : am_M) : Prop := r = .inl v ∧ ∃ T' : am_T, mRep P' T' M' ∧ mFr M M' ∧ T'.1 0 = .int thr
def mOp (k : Nat) (as : List Value) (P P' : am_S) (v : Option Value) (thr : Int32) : Prop :=
  ∀ (d : Nat) (M : am_M) (T : am_T), mRep P T M → am_WC (d + 12) k (.ref 23 :: as) M (mPo P' v thr M)
theorem mgo {Q : am_M → Prop} {M M0 : am_M} {P : am_S} {T : am_T} (r : mRep P T M) (f : mFr M0 M) (k : ∀ M1, mRep P T M1 → mFr M0 M1 → Q M1) : Q M := k M r f
theorem ob_ext {f g : Nat → Value} (h : ∀ i, i < 44 → f i = g i) : ob 8 44 f = ob 8 44 g := by
  unfold ob
  congr 1
  rw [Prod.mk.injEq]
  exact ⟨rfl, List.map_congr_left fun i hi => h i (by simpa using hi)⟩
theorem m_44 {Q : Nat → Prop} (h : Q 0 ∧ Q 1 ∧ Q 2 ∧ Q 3 ∧ Q 4 ∧ Q 5 ∧ Q 6 ∧ Q 7 ∧ Q 8 ∧ Q 9 ∧ Q 10 ∧ Q 11 ∧ Q 12 ∧ Q 13 ∧ Q 14 ∧ Q 15 ∧ Q 16 ∧ Q 17 ∧ Q 18 ∧ Q 19 ∧ Q 20 ∧ Q 21 ∧ Q 22 ∧ Q 23 ∧ Q 24 ∧ Q 25 ∧ Q 26 ∧ Q 27 ∧ Q 28 ∧ Q 29 ∧ Q 30 ∧ Q 31 ∧ Q 32 ∧ Q 33 ∧ Q 34 ∧ Q 35 ∧ Q 36 ∧ Q 37 ∧ Q 38 ∧ Q 39 ∧ Q 40 ∧ Q 41 ∧ Q 42 ∧ Q 43) : ∀ i, i < 44 → Q i := by
  intro i hi
  obtain ⟨h0, h1, h2, h3, h4, h5, h6, h7, h8, h9, h10, h11, h12, h13, h14, h15, h16, h17, h18, h19, h20, h21, h22, h23, h24, h25, h26, h27, h28, h29, h30, h31, h32, h33, h34, h35, h36, h37, h38, h39, h40, h41, h42, h43⟩ := h
  have : i = 0 ∨ i = 1 ∨ i = 2 ∨ i = 3 ∨ i = 4 ∨ i = 5 ∨ i = 6 ∨ i = 7 ∨ i = 8 ∨ i = 9 ∨ i = 10 ∨ i = 11 ∨ i = 12 ∨ i = 13 ∨ i = 14 ∨ i = 15 ∨ i = 16 ∨ i = 17 ∨ i = 18 ∨ i = 19 ∨ i = 20 ∨ i = 21 ∨ i = 22 ∨ i = 23 ∨ i = 24 ∨ i = 25 ∨ i = 26 ∨ i = 27 ∨ i = 28 ∨ i = 29 ∨ i = 30 ∨ i = 31 ∨ i = 32 ∨ i = 33 ∨ i = 34 ∨ i = 35 ∨ i = 36 ∨ i = 37 ∨ i = 38 ∨ i = 39 ∨ i = 40 ∨ i = 41 ∨ i = 42 ∨ i = 43 := by omega
  rcases this with rfl | rfl | rfl | rfl | rfl | rfl | rfl | rfl | rfl | rfl | rfl | rfl | rfl | rfl | rfl | rfl | rfl | rfl | rfl | rfl | rfl | rfl | rfl | rfl | rfl | rfl | rfl | rfl | rfl | rfl | rfl | rfl | rfl | rfl | rfl | rfl | rfl | rfl | rfl | rfl | rfl | rfl | rfl | rfl <;> assumption
theorem mw_t0 {P : am_S} {T : am_T} {M : am_M} (h : mRep P T M) (v : Value) : mRep P (tf T 0 v) (am_set M 23 (ob 8 44 (va_up (mf P T.1) 0 v))) :=
  h.fld (ob_ext (m_44 (Q := fun i => va_up (mf P T.1) 0 v i = mf P ((tf T 0 v)).1 i) ⟨rfl, rfl, rfl, rfl, rfl, rfl, rfl, rfl, rfl, rfl, rfl, rfl, rfl, rfl, rfl, rfl, rfl, rfl, rfl, rfl, rfl, rfl, rfl, rfl, rfl, rfl, rfl, rfl, rfl, rfl, rfl, rfl, rfl, rfl, rfl, rfl, rfl, rfl, rfl, rfl, rfl, rfl, rfl, rfl⟩)) rfl rfl
theorem mw_t7 {P : am_S} {T : am_T} {M : am_M} (h : mRep P T M) (v : Value) : mRep P (tf T 7 v) (am_set M 23 (ob 8 44 (va_up (mf P T.1) 7 v))) :=
  h.fld (ob_ext (m_44 (Q := fun i => va_up (mf P T.1) 7 v i = mf P ((tf T 7 v)).1 i) ⟨rfl, rfl, rfl, rfl, rfl, rfl, rfl, rfl, rfl, rfl, rfl, rfl, rfl, rfl, rfl, rfl, rfl, rfl, rfl, rfl, rfl, rfl, rfl, rfl, rfl, rfl, rfl, rfl, rfl, rfl, rfl, rfl, rfl, rfl, rfl, rfl, rfl, rfl, rfl, rfl, rfl, rfl, rfl, rfl⟩)) rfl rfl
theorem mw_t8 {P : am_S} {T : am_T} {M : am_M} (h : mRep P T M) (v : Value) : mRep P (tf T 8 v) (am_set M 23 (ob 8 44 (va_up (mf P T.1) 8 v))) :=
  h.fld (ob_ext (m_44 (Q := fun i => va_up (mf P T.1) 8 v i = mf P ((tf T 8 v)).1 i) ⟨rfl, rfl, rfl, rfl, rfl, rfl, rfl, rfl, rfl, rfl, rfl, rfl, rfl, rfl, rfl, rfl, rfl, rfl, rfl, rfl, rfl, rfl, rfl, rfl, rfl, rfl, rfl, rfl, rfl, rfl, rfl, rfl, rfl, rfl, rfl, rfl, rfl, rfl, rfl, rfl, rfl, rfl, rfl, rfl⟩)) rfl rfl
theorem mw_t9 {P : am_S} {T : am_T} {M : am_M} (h : mRep P T M) (v : Value) : mRep P (tf T 9 v) (am_set M 23 (ob 8 44 (va_up (mf P T.1) 9 v))) :=
  h.fld (ob_ext (m_44 (Q := fun i => va_up (mf P T.1) 9 v i = mf P ((tf T 9 v)).1 i) ⟨rfl, rfl, rfl, rfl, rfl, rfl, rfl, rfl, rfl, rfl, rfl, rfl, rfl, rfl, rfl, rfl, rfl, rfl, rfl, rfl, rfl, rfl, rfl, rfl, rfl, rfl, rfl, rfl, rfl, rfl, rfl, rfl, rfl, rfl, rfl, rfl, rfl, rfl, rfl, rfl, rfl, rfl, rfl, rfl⟩)) rfl rfl
theorem mw_t10 {P : am_S} {T : am_T} {M : am_M} (h : mRep P T M) (v : Value) : mRep P (tf T 10 v) (am_set M 23 (ob 8 44 (va_up (mf P T.1) 10 v))) :=
  h.fld (ob_ext (m_44 (Q := fun i => va_up (mf P T.1) 10 v i = mf P ((tf T 10 v)).1 i) ⟨rfl, rfl, rfl, rfl, rfl, rfl, rfl, rfl, rfl, rfl, rfl, rfl, rfl, rfl, rfl, rfl, rfl, rfl, rfl, rfl, rfl, rfl, rfl, rfl, rfl, rfl, rfl, rfl, rfl, rfl, rfl, rfl, rfl, rfl, rfl, rfl, rfl, rfl, rfl, rfl, rfl, rfl, rfl, rfl⟩)) rfl rfl
theorem mw_t42 {P : am_S} {T : am_T} {M : am_M} (h : mRep P T M) (v : Value) : mRep P (tf T 42 v) (am_set M 23 (ob 8 44 (va_up (mf P T.1) 42 v))) :=
  h.fld (ob_ext (m_44 (Q := fun i => va_up (mf P T.1) 42 v i = mf P ((tf T 42 v)).1 i) ⟨rfl, rfl, rfl, rfl, rfl, rfl, rfl, rfl, rfl, rfl, rfl, rfl, rfl, rfl, rfl, rfl, rfl, rfl, rfl, rfl, rfl, rfl, rfl, rfl, rfl, rfl, rfl, rfl, rfl, rfl, rfl, rfl, rfl, rfl, rfl, rfl, rfl, rfl, rfl, rfl, rfl, rfl, rfl, rfl⟩)) rfl rfl
theorem mw_t43 {P : am_S} {T : am_T} {M : am_M} (h : mRep P T M) (v : Value) : mRep P (tf T 43 v) (am_set M 23 (ob 8 44 (va_up (mf P T.1) 43 v))) :=
  h.fld (ob_ext (m_44 (Q := fun i => va_up (mf P T.1) 43 v i = mf P ((tf T 43 v)).1 i) ⟨rfl, rfl, rfl, rfl, rfl, rfl, rfl, rfl, rfl, rfl, rfl, rfl, rfl, rfl, rfl, rfl, rfl, rfl, rfl, rfl, rfl, rfl, rfl, rfl, rfl, rfl, rfl, rfl, rfl, rfl, rfl, rfl, rfl, rfl, rfl, rfl, rfl, rfl, rfl, rfl, rfl, rfl, rfl, rfl⟩)) rfl rfl
theorem mw_1 {P : am_S} {T : am_T} {M : am_M} (h : mRep P T M) (v : Int64) : mRep (uj P 0 v) T (am_set M 23 (ob 8 44 (va_up (mf P T.1) 1 (.long v)))) :=
  h.fld (ob_ext (m_44 (Q := fun i => va_up (mf P T.1) 1 (.long v) i = mf (uj P 0 v) (T).1 i) ⟨rfl, rfl, rfl, rfl, rfl, rfl, rfl, rfl, rfl, rfl, rfl, rfl, rfl, rfl, rfl, rfl, rfl, rfl, rfl, rfl, rfl, rfl, rfl, rfl, rfl, rfl, rfl, rfl, rfl, rfl, rfl, rfl, rfl, rfl, rfl, rfl, rfl, rfl, rfl, rfl, rfl, rfl, rfl, rfl⟩)) rfl rfl
theorem mw_39 {P : am_S} {T : am_T} {M : am_M} (h : mRep P T M) (v : Int64) : mRep (uj P 1 v) T (am_set M 23 (ob 8 44 (va_up (mf P T.1) 39 (.long v)))) :=
  h.fld (ob_ext (m_44 (Q := fun i => va_up (mf P T.1) 39 (.long v) i = mf (uj P 1 v) (T).1 i) ⟨rfl, rfl, rfl, rfl, rfl, rfl, rfl, rfl, rfl, rfl, rfl, rfl, rfl, rfl, rfl, rfl, rfl, rfl, rfl, rfl, rfl, rfl, rfl, rfl, rfl, rfl, rfl, rfl, rfl, rfl, rfl, rfl, rfl, rfl, rfl, rfl, rfl, rfl, rfl, rfl, rfl, rfl, rfl, rfl⟩)) rfl rfl
theorem mw_40 {P : am_S} {T : am_T} {M : am_M} (h : mRep P T M) (v : Int64) : mRep (uj P 2 v) T (am_set M 23 (ob 8 44 (va_up (mf P T.1) 40 (.long v)))) :=
  h.fld (ob_ext (m_44 (Q := fun i => va_up (mf P T.1) 40 (.long v) i = mf (uj P 2 v) (T).1 i) ⟨rfl, rfl, rfl, rfl, rfl, rfl, rfl, rfl, rfl, rfl, rfl, rfl, rfl, rfl, rfl, rfl, rfl, rfl, rfl, rfl, rfl, rfl, rfl, rfl, rfl, rfl, rfl, rfl, rfl, rfl, rfl, rfl, rfl, rfl, rfl, rfl, rfl, rfl, rfl, rfl, rfl, rfl, rfl, rfl⟩)) rfl rfl
theorem mw_2 {P : am_S} {T : am_T} {M : am_M} (h : mRep P T M) (v : Int32) : mRep (ui P 0 v) T (am_set M 23 (ob 8 44 (va_up (mf P T.1) 2 (.int v)))) :=
  h.fld (ob_ext (m_44 (Q := fun i => va_up (mf P T.1) 2 (.int v) i = mf (ui P 0 v) (T).1 i) ⟨rfl, rfl, rfl, rfl, rfl, rfl, rfl, rfl, rfl, rfl, rfl, rfl, rfl, rfl, rfl, rfl, rfl, rfl, rfl, rfl, rfl, rfl, rfl, rfl, rfl, rfl, rfl, rfl, rfl, rfl, rfl, rfl, rfl, rfl, rfl, rfl, rfl, rfl, rfl, rfl, rfl, rfl, rfl, rfl⟩)) rfl rfl
theorem mw_3 {P : am_S} {T : am_T} {M : am_M} (h : mRep P T M) (v : Int32) : mRep (ui P 1 v) T (am_set M 23 (ob 8 44 (va_up (mf P T.1) 3 (.int v)))) :=
  h.fld (ob_ext (m_44 (Q := fun i => va_up (mf P T.1) 3 (.int v) i = mf (ui P 1 v) (T).1 i) ⟨rfl, rfl, rfl, rfl, rfl, rfl, rfl, rfl, rfl, rfl, rfl, rfl, rfl, rfl, rfl, rfl, rfl, rfl, rfl, rfl, rfl, rfl, rfl, rfl, rfl, rfl, rfl, rfl, rfl, rfl, rfl, rfl, rfl, rfl, rfl, rfl, rfl, rfl, rfl, rfl, rfl, rfl, rfl, rfl⟩)) rfl rfl
theorem mw_18 {P : am_S} {T : am_T} {M : am_M} (h : mRep P T M) (v : Int32) : mRep (ui P 2 v) T (am_set M 23 (ob 8 44 (va_up (mf P T.1) 18 (.int v)))) :=
  h.fld (ob_ext (m_44 (Q := fun i => va_up (mf P T.1) 18 (.int v) i = mf (ui P 2 v) (T).1 i) ⟨rfl, rfl, rfl, rfl, rfl, rfl, rfl, rfl, rfl, rfl, rfl, rfl, rfl, rfl, rfl, rfl, rfl, rfl, rfl, rfl, rfl, rfl, rfl, rfl, rfl, rfl, rfl, rfl, rfl, rfl, rfl, rfl, rfl, rfl, rfl, rfl, rfl, rfl, rfl, rfl, rfl, rfl, rfl, rfl⟩)) rfl rfl
theorem mw_19 {P : am_S} {T : am_T} {M : am_M} (h : mRep P T M) (v : Int32) : mRep (ui P 3 v) T (am_set M 23 (ob 8 44 (va_up (mf P T.1) 19 (.int v)))) :=
  h.fld (ob_ext (m_44 (Q := fun i => va_up (mf P T.1) 19 (.int v) i = mf (ui P 3 v) (T).1 i) ⟨rfl, rfl, rfl, rfl, rfl, rfl, rfl, rfl, rfl, rfl, rfl, rfl, rfl, rfl, rfl, rfl, rfl, rfl, rfl, rfl, rfl, rfl, rfl, rfl, rfl, rfl, rfl, rfl, rfl, rfl, rfl, rfl, rfl, rfl, rfl, rfl, rfl, rfl, rfl, rfl, rfl, rfl, rfl, rfl⟩)) rfl rfl
theorem mw_20 {P : am_S} {T : am_T} {M : am_M} (h : mRep P T M) (v : Int32) : mRep (ui P 4 v) T (am_set M 23 (ob 8 44 (va_up (mf P T.1) 20 (.int v)))) :=
  h.fld (ob_ext (m_44 (Q := fun i => va_up (mf P T.1) 20 (.int v) i = mf (ui P 4 v) (T).1 i) ⟨rfl, rfl, rfl, rfl, rfl, rfl, rfl, rfl, rfl, rfl, rfl, rfl, rfl, rfl, rfl, rfl, rfl, rfl, rfl, rfl, rfl, rfl, rfl, rfl, rfl, rfl, rfl, rfl, rfl, rfl, rfl, rfl, rfl, rfl, rfl, rfl, rfl, rfl, rfl, rfl, rfl, rfl, rfl, rfl⟩)) rfl rfl
theorem mw_41 {P : am_S} {T : am_T} {M : am_M} (h : mRep P T M) (v : Int32) : mRep (ui P 5 v) T (am_set M 23 (ob 8 44 (va_up (mf P T.1) 41 (.int v)))) :=
  h.fld (ob_ext (m_44 (Q := fun i => va_up (mf P T.1) 41 (.int v) i = mf (ui P 5 v) (T).1 i) ⟨rfl, rfl, rfl, rfl, rfl, rfl, rfl, rfl, rfl, rfl, rfl, rfl, rfl, rfl, rfl, rfl, rfl, rfl, rfl, rfl, rfl, rfl, rfl, rfl, rfl, rfl, rfl, rfl, rfl, rfl, rfl, rfl, rfl, rfl, rfl, rfl, rfl, rfl, rfl, rfl, rfl, rfl, rfl, rfl⟩)) rfl rfl
theorem mw_6 {P : am_S} {T : am_T} {M : am_M} (h : mRep P T M) (v : Nat) : mRep (un P 0 v) T (am_set M 23 (ob 8 44 (va_up (mf P T.1) 6 (.int (Int32.ofNat v))))) :=
  h.fld (ob_ext (m_44 (Q := fun i => va_up (mf P T.1) 6 (.int (Int32.ofNat v)) i = mf (un P 0 v) (T).1 i) ⟨rfl, rfl, rfl, rfl, rfl, rfl, rfl, rfl, rfl, rfl, rfl, rfl, rfl, rfl, rfl, rfl, rfl, rfl, rfl, rfl, rfl, rfl, rfl, rfl, rfl, rfl, rfl, rfl, rfl, rfl, rfl, rfl, rfl, rfl, rfl, rfl, rfl, rfl, rfl, rfl, rfl, rfl, rfl, rfl⟩)) rfl rfl
theorem mw_15 {P : am_S} {T : am_T} {M : am_M} (h : mRep P T M) (v : Nat) : mRep (un P 1 v) T (am_set M 23 (ob 8 44 (va_up (mf P T.1) 15 (.int (Int32.ofNat v))))) :=
  h.fld (ob_ext (m_44 (Q := fun i => va_up (mf P T.1) 15 (.int (Int32.ofNat v)) i = mf (un P 1 v) (T).1 i) ⟨rfl, rfl, rfl, rfl, rfl, rfl, rfl, rfl, rfl, rfl, rfl, rfl, rfl, rfl, rfl, rfl, rfl, rfl, rfl, rfl, rfl, rfl, rfl, rfl, rfl, rfl, rfl, rfl, rfl, rfl, rfl, rfl, rfl, rfl, rfl, rfl, rfl, rfl, rfl, rfl, rfl, rfl, rfl, rfl⟩)) rfl rfl
theorem mw_16 {P : am_S} {T : am_T} {M : am_M} (h : mRep P T M) (v : Nat) : mRep (un P 2 v) T (am_set M 23 (ob 8 44 (va_up (mf P T.1) 16 (.int (Int32.ofNat v))))) :=
  h.fld (ob_ext (m_44 (Q := fun i => va_up (mf P T.1) 16 (.int (Int32.ofNat v)) i = mf (un P 2 v) (T).1 i) ⟨rfl, rfl, rfl, rfl, rfl, rfl, rfl, rfl, rfl, rfl, rfl, rfl, rfl, rfl, rfl, rfl, rfl, rfl, rfl, rfl, rfl, rfl, rfl, rfl, rfl, rfl, rfl, rfl, rfl, rfl, rfl, rfl, rfl, rfl, rfl, rfl, rfl, rfl, rfl, rfl, rfl, rfl, rfl, rfl⟩)) rfl rfl
theorem mw_17 {P : am_S} {T : am_T} {M : am_M} (h : mRep P T M) (v : Nat) : mRep (un P 3 v) T (am_set M 23 (ob 8 44 (va_up (mf P T.1) 17 (.int (Int32.ofNat v))))) :=
  h.fld (ob_ext (m_44 (Q := fun i => va_up (mf P T.1) 17 (.int (Int32.ofNat v)) i = mf (un P 3 v) (T).1 i) ⟨rfl, rfl, rfl, rfl, rfl, rfl, rfl, rfl, rfl, rfl, rfl, rfl, rfl, rfl, rfl, rfl, rfl, rfl, rfl, rfl, rfl, rfl, rfl, rfl, rfl, rfl, rfl, rfl, rfl, rfl, rfl, rfl, rfl, rfl, rfl, rfl, rfl, rfl, rfl, rfl, rfl, rfl, rfl, rfl⟩)) rfl rfl
theorem mw_26 {P : am_S} {T : am_T} {M : am_M} (h : mRep P T M) (v : Nat) : mRep (un P 5 v) T (am_set M 23 (ob 8 44 (va_up (mf P T.1) 26 (.int (Int32.ofNat v))))) :=
  h.fld (ob_ext (m_44 (Q := fun i => va_up (mf P T.1) 26 (.int (Int32.ofNat v)) i = mf (un P 5 v) (T).1 i) ⟨rfl, rfl, rfl, rfl, rfl, rfl, rfl, rfl, rfl, rfl, rfl, rfl, rfl, rfl, rfl, rfl, rfl, rfl, rfl, rfl, rfl, rfl, rfl, rfl, rfl, rfl, rfl, rfl, rfl, rfl, rfl, rfl, rfl, rfl, rfl, rfl, rfl, rfl, rfl, rfl, rfl, rfl, rfl, rfl⟩)) rfl rfl
theorem mw_25 {P : am_S} {T : am_T} {M : am_M} (h : mRep P T M) (v : Nat) (h0 : sn P 6 = 0) : mRep (un P 4 v) T (am_set M 23 (ob 8 44 (va_up (mf P T.1) 25 (.int (Int32.ofNat v))))) :=
  h.fld (ob_ext (m_44 (Q := fun i => va_up (mf P T.1) 25 (.int (Int32.ofNat v)) i = mf (un P 4 v) (T).1 i) ⟨rfl, rfl, rfl, rfl, rfl, rfl, rfl, rfl, rfl, rfl, rfl, rfl, rfl, rfl, rfl, rfl, rfl, rfl, rfl, rfl, rfl, rfl, rfl, rfl, by show Value.int (ru P) = Value.int (ru (un P 4 v)); unfold ru; rw [if_pos h0, if_pos (show sn (un P 4 v) 6 = 0 from h0)], rfl, rfl, rfl, rfl, rfl, rfl, rfl, rfl, rfl, rfl, rfl, rfl, rfl, rfl, rfl, rfl, rfl, rfl, rfl⟩)) rfl rfl
theorem mw_24n {P : am_S} {T : am_T} {M : am_M} (h : mRep P T M) : mRep (un P 6 0) T (am_set M 23 (ob 8 44 (va_up (mf P T.1) 24 (.int (-1))))) :=
  h.fld (ob_ext (m_44 (Q := fun i => va_up (mf P T.1) 24 (.int (-1)) i = mf (un P 6 0) (T).1 i) ⟨rfl, rfl, rfl, rfl, rfl, rfl, rfl, rfl, rfl, rfl, rfl, rfl, rfl, rfl, rfl, rfl, rfl, rfl, rfl, rfl, rfl, rfl, rfl, rfl, rfl, rfl, rfl, rfl, rfl, rfl, rfl, rfl, rfl, rfl, rfl, rfl, rfl, rfl, rfl, rfl, rfl, rfl, rfl, rfl⟩)) rfl rfl
theorem mw_24r {P : am_S} {T : am_T} {M : am_M} (h : mRep P T M) (v : Nat) (h0 : sn P 4 = v + 1) : mRep (un P 6 1) T (am_set M 23 (ob 8 44 (va_up (mf P T.1) 24 (.int (Int32.ofNat v))))) :=
  h.fld (ob_ext (m_44 (Q := fun i => va_up (mf P T.1) 24 (.int (Int32.ofNat v)) i = mf (un P 6 1) (T).1 i) ⟨rfl, rfl, rfl, rfl, rfl, rfl, rfl, rfl, rfl, rfl, rfl, rfl, rfl, rfl, rfl, rfl, rfl, rfl, rfl, rfl, rfl, rfl, rfl, rfl, by show Value.int (Int32.ofNat v) = Value.int (Int32.ofNat (sn P 4 - 1)); rw [h0]; rfl, rfl, rfl, rfl, rfl, rfl, rfl, rfl, rfl, rfl, rfl, rfl, rfl, rfl, rfl, rfl, rfl, rfl, rfl, rfl⟩)) rfl rfl
