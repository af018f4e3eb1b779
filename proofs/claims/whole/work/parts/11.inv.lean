/-! each instruction that is no call: the small machine's step is the machine's; printed by wip/whole/gen_step.py -/
section ST
def am_hw (i : Nat) (w : Cond) : Bool := decide (lw_tbl[i]? = some w) && goodWord w
theorem am_hw_in {i : Nat} {w : Cond} (h : am_hw i w = true) : w ∈ am_ws := by
  simp only [am_hw, Bool.and_eq_true, decide_eq_true_eq] at h
  exact am_ws_at h.1 h.2
def am_tys : List FieldType := [.int, .long, .boolean, .double, .object "RangingStation$Station", .object "RangingStation$Pass", .object "RangingStation$Observation"]
def am_ln (i : Instr) (len : Nat) : Nat := match i with
  | .bipush _ | .ldc _ | .iload _ | .lload _ | .dload _ | .aload _ | .istore _ | .lstore _ | .dstore _ | .astore _ | .newarray _ => 2
  | .sipush _ | .ldc_w _ | .ldc2_w _ | .iinc _ _ | .ifCond _ _ | .if_icmp _ _ | .goto _ | .ifnull _ | .ifnonnull _ | .getfield _ | .putfield _ | .new _ | .anewarray _ | .invokestatic _ | .invokevirtual _ | .invokespecial _ | .checkcast _ => 3
  | .tableswitch _ _ _ _ => len
  | _ => 1
def am_tk (c : Nat) (ty : FieldType) : Bool := match c, ty with
  | 0, .int => true
  | 1, .long => true
  | 2, .boolean => true
  | 3, .double => true
  | 4, .object _ => true
  | 4, .array _ => true
  | _, _ => false
def am_ck1 (own : String) (nL : Nat) (ini : Bool) (i : Instr) (a b c w w2 : Nat) (v : Value) (pc : Nat) : Bool := match i with
  | .istore_n k => decide ((k : Nat) < nL)
  | .astore_n k => decide ((k : Nat) < nL)
  | .istore k => decide (k < nL)
  | .astore k => decide (k < nL)
  | .lstore_n k => decide ((k : Nat) + 1 < nL)
  | .dstore_n k => decide ((k : Nat) + 1 < nL)
  | .lstore k => decide (k + 1 < nL)
  | .dstore k => decide (k + 1 < nL)
  | .iinc k _ => decide (k < nL)
  | .ldc idx => (a != 0) || (match v with | .int x => am_hw w (.constant own idx x) | _ => false)
  | .ldc_w idx => (a != 0) || (match v with | .int x => am_hw w (.constant own idx x) | _ => false)
  | .ldc2_w idx => (a != 0) || (match v with | .long x => am_hw w (.constantLong own idx x) | _ => false)
  | .ifCond _ off => decide ((pc : Int) + off = (a : Int))
  | .if_icmp _ off => decide ((pc : Int) + off = (a : Int))
  | .goto off => decide ((pc : Int) + off = (a : Int))
  | .ifnull off => decide ((pc : Int) + off = (a : Int))
  | .ifnonnull off => decide ((pc : Int) + off = (a : Int))
  | .getfield idx => match am_cls[a]? with
    | some q => decide (b < q.2.2) && am_hw w (.fieldLink own idx (q.2.1 b).1 (q.2.1 b).2.1 (q.2.1 b).2.2.1)
    | none => false
  | .putfield idx => match am_cls[a]? with
    | some q => decide (b < q.2.2) && am_hw w (.fieldLink own idx (q.2.1 b).1 (q.2.1 b).2.1 (q.2.1 b).2.2.1) && am_tk c (am_ty a b) && (!(q.2.1 b).2.2.2 || (ini && decide ((q.2.1 b).1 = own)))
    | none => false
  | .newarray at9 => decide (a < 4) && decide (am_tys[a]? = some (newarray.typeOf at9)) && am_hw w (.arrayClass (newarray.typeOf at9))
  | .anewarray idx => decide (4 ≤ a ∧ a ≤ 6) && (match am_tys[a]? with | some (.object C) => am_hw w (.classLink own idx C) | _ => false)
  | .new idx => if a < 9 then (match am_cls[a]? with
      | some q => am_hw w (.classLink own idx q.1) && am_hw w2 (.instantiable q.1 q.2.2) && am_hw b (.initialized q.1)
      | none => false) else true
  | .invokestatic idx => (a != 4 && a != 5) || (am_hw w (.methodLink own idx arraycopyName) && decide (.native arraycopyName ∈ am_ws ∧ .static arraycopyName ∈ am_ws ∧ .initialized "java/lang/System" ∈ am_ws))
  | .invokespecial idx => (a != 3) || (am_hw w (.methodLink own idx Lib.objectInit) && decide (.instanceMethod Lib.objectInit ∈ am_ws ∧ Cond.code Lib.objectInit ⟨#[0xb1]⟩ 1 none ∈ am_ws))
  | _ => true
/-- what holds of the tables besides the words: moved along a walk -/
def am_nw : List Cond := lw_tbl.filter (fun w => w.onTables && w.keepsFace)
def am_elts : List String := ["RangingStation$Station", "RangingStation$Pass", "RangingStation$Observation"]
def am_nests : List (String × Nat × MethodName × String) := [("RangingStation", 9, ⟨"RangingStation$Motion", "<init>", "()V"⟩, "RangingStation"), ("RangingStation", 44, ⟨"RangingStation$Noise", "<init>", "()V"⟩, "RangingStation"), ("RangingStation$Reading", 28, ⟨"RangingStation", "floorDivide", "(JJ)J"⟩, "RangingStation"), ("RangingStation$Reading", 34, ⟨"RangingStation", "nearestMultiple", "(JJ)J"⟩, "RangingStation"), ("RangingStation", 424, ⟨"RangingStation$Line", "<init>", "()V"⟩, "RangingStation")]
def am_strs : List (String × Nat × String) := [("RangingStation", 380, "a parameter is out of range"), ("RangingStation", 386, "a pass is running"), ("RangingStation", 118, "the script is full"), ("RangingStation", 128, "the time would exceed its limit"), ("RangingStation", 390, "no such station"), ("RangingStation", 153, "not less than the last wavelength"), ("RangingStation", 156, "there are no more tones to be had"), ("RangingStation", 384, "there are no tones"), ("RangingStation", 382, "no such tone"), ("RangingStation", 211, "the station has not been calibrated"), ("RangingStation", 216, "no such calibrated station"), ("RangingStation", 219, "there are no more passes to be had"), ("RangingStation", 388, "no pass is running"), ("RangingStation", 235, "there are no more observations to be had"), ("RangingStation", 392, "no such pass"), ("RangingStation", 394, "no such observation"), ("RangingStation", 402, "the first observation of a pass has no prediction"), ("RangingStation", 407, "the pass has no innovations"), ("RangingStation", 421, "too few different times for a line"), ("RangingStation", 362, "too few observations to join the pass")]
def am_ncs : List (String × String) := [("java/lang/ArithmeticException", "java/lang/IndexOutOfBoundsException"), ("java/lang/IllegalStateException", "java/lang/IllegalArgumentException"), ("java/lang/IllegalStateException", "java/lang/IndexOutOfBoundsException"), ("java/util/NoSuchElementException", "java/lang/IllegalArgumentException"), ("java/util/NoSuchElementException", "java/lang/IndexOutOfBoundsException")]
def am_K (D : va_G) (cT : List (ClassId × FieldType)) (U : State) : Prop :=
  va_K D am_cls cT U ∧ cT.map (fun q => q.2) = am_tys ∧ (∀ C ∈ am_elts, va_AO C U) ∧ (∀ q ∈ am_strs, ∃ sa, vk_R q.1 q.2.1 q.2.2 sa U) ∧ (∀ w ∈ am_nw, va_Nw w U) ∧ (∀ q ∈ am_nests, va_Nw (.methodLinkNest q.1 q.2.1 q.2.2.1 q.2.2.2) U) ∧ ∀ q ∈ am_ncs, va_Nc q.1 q.2 U
def am_Z (A : Nat → Prop) (U : State) (H : Heap) : Prop := vx_Zq Bundle.tN "UNASSIGNED_STACK" Bundle.steD A U H ∧ vx_Zq Bundle.tN "SUPPRESSED_SENTINEL" Bundle.listD A U H
def am_Cx (p : Program) (l : Launch) (R : Room) (s : State) (m : MethodId) (args : Array Value) (meth : Method) (c : Code) (own : String) (cc : ByteArray) (nL : Nat) (ini : Bool) (D : va_G) (cT : List (ClassId × FieldType)) (A : Nat → Prop) : Prop :=
  p.tables.exec = Jvm.exec ∧ c.code = cc ∧ c.maxLocals = nL ∧ s.vm.findClass own = some m.cls ∧ (∀ w ∈ am_ws, w.before args s = true) ∧ meth.locks = false ∧ am_K D cT s ∧ am_Z A s s.heap ∧ (∀ q, s.heap.size ≤ q → A q) ∧ (ini = true → meth.name = "<init>") ∧ 6 ≤ R.frames ∧ 200 ≤ R.locals ∧ l.stackTraces = false
def am_Pt (D : va_G) (cT : List (ClassId × FieldType)) (b : Nat) (A : Nat → Prop) (nL : Nat) (L0 : List Nat) (H0 : Heap) (la : am_L) (st : List Value) (M : am_M) (ls : Array Slot) (sr : List Value) (H : Heap) (locs : List Loc) : Prop :=
  ∃ (lr : List (Nat × Value)) (ws : va_W), lv_has ls nL lr ∧ am_TR (am_VR b (am_la ws)) la lr ∧ am_SR (am_VR b (am_la ws)) st sr ∧ am_Wd D cT b A M ws H ∧ va_S A H0 H locs ∧ am_pre L0 (am_la ws)
def am_Xs (xs : Option (Nat × (Nat → Int32))) (b : Nat) (A : Nat → Prop) (s : State) : Prop := ∀ q, xs = some q → va_X b q.1 q.2 s s.heap ∧ b < s.heap.size ∧ ¬ A b
end ST
section SI
theorem nx_inj {pc pc' : Nat} {l l' : am_L} {st st' : List Value} {M M' : am_M} (h : am_nx pc l st M = some (.inl (pc', l', st', M'))) : pc = pc' ∧ l = l' ∧ st = st' ∧ M = M' := by
  simpa [am_nx] using h
variable {st : List Value} {o : am_O} {b : Nat} {L : List Nat}
theorem i1_inv {k : Int32 → List Value → Option am_O} (h : am_i1 st k = some o) : ∃ x r, st = .int x :: r ∧ k x r = some o := by
  unfold am_i1 at h; split at h
  · exact ⟨_, _, rfl, h⟩
  · cases h
theorem i2_inv {k : Int32 → Int32 → List Value → Option am_O} (h : am_i2 st k = some o) : ∃ x y r, st = .int y :: .int x :: r ∧ k x y r = some o := by
  unfold am_i2 at h; split at h
  · exact ⟨_, _, _, rfl, h⟩
  · cases h
theorem j1_inv {k : Int64 → List Value → Option am_O} (h : am_j1 st k = some o) : ∃ x r, st = .long x :: r ∧ k x r = some o := by
  unfold am_j1 at h; split at h
  · exact ⟨_, _, rfl, h⟩
  · cases h
theorem j2_inv {k : Int64 → Int64 → List Value → Option am_O} (h : am_j2 st k = some o) : ∃ x y r, st = .long y :: .long x :: r ∧ k x y r = some o := by
  unfold am_j2 at h; split at h
  · exact ⟨_, _, _, rfl, h⟩
  · cases h
theorem ij_inv {k : Int64 → Int32 → List Value → Option am_O} (h : am_ij st k = some o) : ∃ x y r, st = .int y :: .long x :: r ∧ k x y r = some o := by
  unfold am_ij at h; split at h
  · exact ⟨_, _, _, rfl, h⟩
  · cases h
theorem d1_inv {k : UInt64 → List Value → Option am_O} (h : am_d1 st k = some o) : ∃ x r, st = .double x :: r ∧ k x r = some o := by
  unfold am_d1 at h; split at h
  · exact ⟨_, _, rfl, h⟩
  · cases h
theorem d2_inv {k : UInt64 → UInt64 → List Value → Option am_O} (h : am_d2 st k = some o) : ∃ x y r, st = .double y :: .double x :: r ∧ k x y r = some o := by
  unfold am_d2 at h; split at h
  · exact ⟨_, _, _, rfl, h⟩
  · cases h
theorem a1_inv {k : Nat → List Value → Option am_O} (h : am_a1 st k = some o) : ∃ x r, st = .ref x :: r ∧ k x r = some o := by
  unfold am_a1 at h; split at h
  · exact ⟨_, _, rfl, h⟩
  · cases h
theorem ia_inv {k : Int32 → Nat → List Value → Option am_O} (h : am_ia st k = some o) : ∃ i x r, st = .int i :: .ref x :: r ∧ k i x r = some o := by
  unfold am_ia at h; split at h
  · exact ⟨_, _, _, rfl, h⟩
  · cases h
theorem via_inv {k : Value → Int32 → Nat → List Value → Option am_O} (h : am_via st k = some o) : ∃ v i x r, st = v :: .int i :: .ref x :: r ∧ k v i x r = some o := by
  unfold am_via at h; split at h
  · exact ⟨_, _, _, _, rfl, h⟩
  · cases h
variable {r sr : List Value}
theorem sr_v {v : Value} (h : am_SR (am_VR b L) (v :: r) sr) : ∃ w r', sr = w :: r' ∧ am_VR b L v w ∧ am_SR (am_VR b L) r r' := by
  match sr, h with
  | w :: r', h => exact ⟨w, r', rfl, h.1, h.2⟩
theorem sr_i {x : Int32} (h : am_SR (am_VR b L) (.int x :: r) sr) : ∃ r', sr = .int x :: r' ∧ am_SR (am_VR b L) r r' := by
  obtain ⟨w, r', rfl, h1, h2⟩ := sr_v h
  cases h1
  exact ⟨r', rfl, h2⟩
theorem sr_j {x : Int64} (h : am_SR (am_VR b L) (.long x :: r) sr) : ∃ r', sr = .long x :: r' ∧ am_SR (am_VR b L) r r' := by
  obtain ⟨w, r', rfl, h1, h2⟩ := sr_v h
  cases h1
  exact ⟨r', rfl, h2⟩
theorem sr_d {x : UInt64} (h : am_SR (am_VR b L) (.double x :: r) sr) : ∃ y r', sr = .double y :: r' ∧ alike64 y x = true ∧ am_SR (am_VR b L) r r' := by
  obtain ⟨w, r', rfl, ⟨y, rfl, h1⟩, h2⟩ := sr_v h
  exact ⟨y, r', rfl, h1, h2⟩
theorem sr_a {x : Nat} (h : am_SR (am_VR b L) (.ref x :: r) sr) : ∃ q r', sr = .ref q :: r' ∧ L[x]? = some q ∧ am_SR (am_VR b L) r r' := by
  obtain ⟨w, r', rfl, ⟨q, h1, rfl⟩, h2⟩ := sr_v h
  exact ⟨q, r', rfl, h1, h2⟩
theorem sr_n (h : am_SR (am_VR b L) (.null :: r) sr) : ∃ r', sr = .null :: r' ∧ am_SR (am_VR b L) r r' := by
  obtain ⟨w, r', rfl, h1, h2⟩ := sr_v h
  cases h1
  exact ⟨r', rfl, h2⟩
theorem sr_x {x : Nat} (h : am_SR (am_VR b L) (.retAddr x :: r) sr) : ∃ r', sr = .ref b :: r' ∧ am_SR (am_VR b L) r r' := by
  obtain ⟨w, r', rfl, h1, h2⟩ := sr_v h
  cases h1
  exact ⟨r', rfl, h2⟩
theorem sr_f {x : UInt32} (h : am_SR (am_VR b L) (.float x :: r) sr) : ∃ q r', sr = .ref q :: r' ∧ am_SR (am_VR b L) r r' := by
  obtain ⟨w, r', rfl, ⟨q, rfl⟩, h2⟩ := sr_v h
  exact ⟨q, r', rfl, h2⟩
theorem ldi_inv {o' : Option Value} {pc : Nat} {l : am_L} {M : am_M} (h : am_ldi o' pc l st M = some o) : ∃ x, o' = some (.int x) ∧ am_nx pc l (.int x :: st) M = some o := by
  unfold am_ldi at h; split at h
  · exact ⟨_, rfl, h⟩
  · cases h
theorem ldj_inv {o' : Option Value} {pc : Nat} {l : am_L} {M : am_M} (h : am_ldj o' pc l st M = some o) : ∃ x, o' = some (.long x) ∧ am_nx pc l (.long x :: st) M = some o := by
  unfold am_ldj at h; split at h
  · exact ⟨_, rfl, h⟩
  · cases h
theorem ldd_inv {o' : Option Value} {pc : Nat} {l : am_L} {M : am_M} (h : am_ldd o' pc l st M = some o) : ∃ x, o' = some (.double x) ∧ am_nx pc l (.double x :: st) M = some o := by
  unfold am_ldd at h; split at h
  · exact ⟨_, rfl, h⟩
  · cases h
theorem gf_inv {e : va_E} {a k : Nat} {w : Value} (h : am_gf e a k = some w) : ∃ fs, e = .inr (a, fs) ∧ fs[k]? = some w := by
  unfold am_gf at h; split at h
  · split at h
    · rename_i h1; subst h1; exact ⟨_, rfl, h⟩
    · cases h
  · cases h
theorem pf_inv {e e' : va_E} {a k c : Nat} {v : Value} (h : am_pf e a k c v = some e') : ∃ fs, e = .inr (a, fs) ∧ k < fs.length ∧ am_ok c v = true ∧ e' = .inr (a, fs.set k v) := by
  unfold am_pf at h; split at h
  · split at h
    · rename_i h1; obtain ⟨rfl, h2, h3⟩ := h1; cases h; exact ⟨_, rfl, h2, h3, rfl⟩
    · cases h
  · cases h
theorem ai_inv {e : va_E} {t : Nat} {i x : Int32} (h : am_ai e t i = some x) : ∃ n f, e = .inl (t, n, .inl f) ∧ vp_in i n ∧ x = f i.toNatClampNeg := by
  unfold am_ai at h; split at h
  · split at h
    · rename_i h1; subst h1
      split at h
      · cases h
      · rename_i h2; cases h; exact ⟨_, _, rfl, h2, rfl⟩
    · cases h
  · cases h
theorem aj_inv {e : va_E} {i : Int32} {x : Int64} (h : am_aj e i = some x) : ∃ n f, e = .inl (1, n, .inr (.inl f)) ∧ vp_in i n ∧ x = f i.toNatClampNeg := by
  unfold am_aj at h; split at h
  · split at h
    · rename_i h1; subst h1
      split at h
      · cases h
      · rename_i h2; cases h; exact ⟨_, _, rfl, h2, rfl⟩
    · cases h
  · cases h
theorem ad_inv {e : va_E} {i : Int32} {x : UInt64} (h : am_ad e i = some x) : ∃ n f, e = .inl (3, n, .inr (.inr (.inr (.inl f)))) ∧ vp_in i n ∧ x = f i.toNatClampNeg := by
  unfold am_ad at h; split at h
  · split at h
    · rename_i h1; subst h1
      split at h
      · cases h
      · rename_i h2; cases h; exact ⟨_, _, rfl, h2, rfl⟩
    · cases h
  · cases h
theorem aa_inv {e : va_E} {i : Int32} {x : Value} (h : am_aa e i = some x) : ∃ t n f, e = .inl (t, n, .inr (.inr (.inr (.inr f)))) ∧ 4 ≤ t ∧ t ≤ 6 ∧ vp_in i n ∧ x = va_rf (f i.toNatClampNeg) := by
  unfold am_aa at h; split at h
  · split at h
    · rename_i h1
      split at h
      · cases h
      · rename_i h2; cases h; exact ⟨_, _, _, rfl, h1.1, h1.2, h2, rfl⟩
    · cases h
  · cases h
theorem len_inv {e : va_E} {x : Int32} (h : am_len e = some x) : ∃ t n f, e = .inl (t, n, f) ∧ t ≤ 6 ∧ x = Int32.ofNat n := by
  unfold am_len at h; split at h
  · split at h
    · rename_i h1; cases h; exact ⟨_, _, _, rfl, h1, rfl⟩
    · cases h
  · cases h
theorem wi_inv {e e' : va_E} {t : Nat} {i : Int32} {v : Value} (h : am_wi e t i v = some e') : ∃ n f x, e = .inl (t, n, .inl f) ∧ v = .int x ∧ vp_in i n ∧ am_ok t (.int x) = true ∧ e' = .inl (t, n, .inl (va_up f i.toNatClampNeg x)) := by
  unfold am_wi at h; split at h
  · split at h
    · rename_i h1; obtain ⟨rfl, h2, h3⟩ := h1; cases h; exact ⟨_, _, _, rfl, rfl, h2, h3, rfl⟩
    · cases h
  · cases h
theorem wj_inv {e e' : va_E} {i : Int32} {v : Value} (h : am_wj e i v = some e') : ∃ n f x, e = .inl (1, n, .inr (.inl f)) ∧ v = .long x ∧ vp_in i n ∧ e' = .inl (1, n, .inr (.inl (va_up f i.toNatClampNeg x))) := by
  unfold am_wj at h; split at h
  · split at h
    · rename_i h1; obtain ⟨rfl, h2⟩ := h1; cases h; exact ⟨_, _, _, rfl, rfl, h2, rfl⟩
    · cases h
  · cases h
theorem wd_inv {e e' : va_E} {i : Int32} {v : Value} (h : am_wd e i v = some e') : ∃ n f x, e = .inl (3, n, .inr (.inr (.inr (.inl f)))) ∧ v = .double x ∧ vp_in i n ∧ e' = .inl (3, n, .inr (.inr (.inr (.inl (va_up f i.toNatClampNeg x))))) := by
  unfold am_wd at h; split at h
  · split at h
    · rename_i h1; obtain ⟨rfl, h2⟩ := h1; cases h; exact ⟨_, _, _, rfl, rfl, h2, rfl⟩
    · cases h
  · cases h
theorem wa_inv {e e' ex : va_E} {i : Int32} {x : Nat} (h : am_wa e i x ex = some e') : ∃ t n f gs, e = .inl (t, n, .inr (.inr (.inr (.inr f)))) ∧ ex = .inr (am_elt t, gs) ∧ 4 ≤ t ∧ t ≤ 6 ∧ vp_in i n ∧ e' = .inl (t, n, .inr (.inr (.inr (.inr (va_up f i.toNatClampNeg (some x)))))) := by
  unfold am_wa at h; split at h
  · split at h
    · rename_i h1; obtain ⟨h2, h3, rfl, h4⟩ := h1; cases h; exact ⟨_, _, _, _, rfl, rfl, h2, h3, h4, rfl⟩
    · cases h
  · cases h
theorem ok_R {c : Nat} {v rv : Value} {ty : FieldType} (h : am_ok c v = true) (hv : am_VR b L v rv) (ht : am_tk c ty = true) : narrow ty rv = rv ∧ fits ty rv = true := by
  cases v with
  | int x =>
    cases hv
    simp only [am_ok, Bool.or_eq_true, Bool.and_eq_true, beq_iff_eq] at h
    rcases h with rfl | ⟨rfl, h⟩
    · cases ty <;> simp [am_tk] at ht
      exact ⟨rfl, rfl⟩
    · cases ty <;> simp [am_tk] at ht
      rcases h with rfl | rfl <;> exact ⟨rfl, rfl⟩
  | long x =>
    cases hv
    simp only [am_ok, beq_iff_eq] at h
    subst h
    cases ty <;> simp [am_tk] at ht
    exact ⟨rfl, rfl⟩
  | double x =>
    obtain ⟨y, rfl, -⟩ := hv
    simp only [am_ok, beq_iff_eq] at h
    subst h
    cases ty <;> simp [am_tk] at ht
    exact ⟨rfl, rfl⟩
  | null =>
    cases hv
    simp only [am_ok, beq_iff_eq] at h
    subst h
    cases ty <;> simp [am_tk] at ht <;> exact ⟨rfl, rfl⟩
  | ref x =>
    obtain ⟨q, -, rfl⟩ := hv
    simp only [am_ok, beq_iff_eq] at h
    subst h
    cases ty <;> simp [am_tk] at ht <;> exact ⟨rfl, rfl⟩
  | float x => simp [am_ok] at h
  | retAddr x => simp [am_ok] at h
theorem cT_ty {cT : List (ClassId × FieldType)} (h : cT.map (fun q => q.2) = am_tys) {t : Nat} {cA : ClassId} {ty : FieldType} (ht : cT[t]? = some (cA, ty)) : am_tys[t]? = some ty := by
  rw [← h, List.getElem?_map, ht]; rfl
theorem cT_at {cT : List (ClassId × FieldType)} (h : cT.map (fun q => q.2) = am_tys) {t : Nat} {ty : FieldType} (ht : am_tys[t]? = some ty) : ∃ cA, cT[t]? = some (cA, ty) := by
  rw [← h, List.getElem?_map] at ht
  cases hq : cT[t]? with
  | none => rw [hq] at ht; cases ht
  | some q => rw [hq] at ht; cases ht; exact ⟨q.1, rfl⟩
end SI
