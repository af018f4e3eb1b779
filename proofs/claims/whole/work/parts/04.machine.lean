/-! THE SMALL MACHINE: a total interpreter of the claim's bytecode over an abstract memory (addresses are numbers in the order of making).
    An instruction of a method: its place, what it is, its length, and what it resolves to (a, b, c, the places w, w2 of its words, a constant). -/
abbrev am_I : Type := Nat × Instr × Nat × Nat × Nat × Nat × Nat × Nat × Value
abbrev am_J : Type := MethodName × ByteArray × Nat × Option FieldType × List (Nat × Nat × Nat × Nat) × Nat × Nat × Nat × Nat
/-- memory: the next address, cells made, slots made, contents (an array's class is its kind's number) -/
abbrev am_M : Type := Nat × Nat × Nat × (Nat → va_E)
abbrev am_L : Type := List (Nat × Value)
abbrev am_N : Type := Nat × am_L × List Value × am_M
/-- goes on | returned | thrown | calls: the arguments, the rest of the stack -/
abbrev am_O : Type := am_N ⊕ (Option Value ⊕ (Nat ⊕ (List Value × List Value)))
def am_f (M : am_M) (a : Nat) : va_E := M.2.2.2 a
def am_set (M : am_M) (a : Nat) (e : va_E) : am_M := (M.1, M.2.1, M.2.2.1, va_up M.2.2.2 a e)
def am_new (M : am_M) (z : Nat) (e : va_E) : am_M := (M.1 + 1, M.2.1 + 1, M.2.2.1 + z, va_up M.2.2.2 M.1 e)
def am_pay (M : am_M) (k z : Nat) : am_M := (M.1, M.2.1 + k, M.2.2.1 + z, M.2.2.2)
def am_s1 (l : am_L) (i : Nat) (v : Value) : am_L := (i, v) :: l.filter (fun q => !(q.1 == i) && !(q.1 + 1 == i && q.2.category == 2))
def am_s2 (l : am_L) (i : Nat) (v : Value) : am_L := (i, v) :: l.filter (fun q => !(q.1 == i) && (!(q.1 == i + 1) && !(q.1 + 1 == i && q.2.category == 2)))
def am_lg : am_L → Nat → Option Value
  | [], _ => none
  | q :: l, i => if q.1 = i then some q.2 else am_lg l i
def am_nx (pc : Nat) (l : am_L) (st : List Value) (M : am_M) : Option am_O := some (.inl (pc, l, st, M))
def am_i1 (st : List Value) (k : Int32 → List Value → Option am_O) : Option am_O := match st with
  | .int x :: r => k x r
  | _ => none
def am_i2 (st : List Value) (k : Int32 → Int32 → List Value → Option am_O) : Option am_O := match st with
  | .int y :: .int x :: r => k x y r
  | _ => none
def am_j1 (st : List Value) (k : Int64 → List Value → Option am_O) : Option am_O := match st with
  | .long x :: r => k x r
  | _ => none
def am_j2 (st : List Value) (k : Int64 → Int64 → List Value → Option am_O) : Option am_O := match st with
  | .long y :: .long x :: r => k x y r
  | _ => none
def am_ij (st : List Value) (k : Int64 → Int32 → List Value → Option am_O) : Option am_O := match st with
  | .int y :: .long x :: r => k x y r
  | _ => none
def am_d2 (st : List Value) (k : UInt64 → UInt64 → List Value → Option am_O) : Option am_O := match st with
  | .double y :: .double x :: r => k x y r
  | _ => none
def am_d1 (st : List Value) (k : UInt64 → List Value → Option am_O) : Option am_O := match st with
  | .double x :: r => k x r
  | _ => none
def am_a1 (st : List Value) (k : Nat → List Value → Option am_O) : Option am_O := match st with
  | .ref o :: r => k o r
  | _ => none
def am_ia (st : List Value) (k : Int32 → Nat → List Value → Option am_O) : Option am_O := match st with
  | .int i :: .ref o :: r => k i o r
  | _ => none
def am_via (st : List Value) (k : Value → Int32 → Nat → List Value → Option am_O) : Option am_O := match st with
  | v :: .int i :: .ref o :: r => k v i o r
  | _ => none
/-- a value of the kind c: int, long, boolean, double, reference -/
def am_ok (c : Nat) (v : Value) : Bool := match v with
  | .int x => c == 0 || (c == 2 && (x == 0 || x == 1))
  | .long _ => c == 1
  | .double _ => c == 3
  | .ref _ => c == 4
  | .null => c == 4
  | _ => false
def am_ldi (o : Option Value) (pc : Nat) (l : am_L) (st : List Value) (M : am_M) : Option am_O := match o with
  | some (.int x) => am_nx pc l (.int x :: st) M
  | _ => none
def am_ldj (o : Option Value) (pc : Nat) (l : am_L) (st : List Value) (M : am_M) : Option am_O := match o with
  | some (.long x) => am_nx pc l (.long x :: st) M
  | _ => none
def am_ldd (o : Option Value) (pc : Nat) (l : am_L) (st : List Value) (M : am_M) : Option am_O := match o with
  | some (.double x) => am_nx pc l (.double x :: st) M
  | _ => none
def am_lda (o : Option Value) (pc : Nat) (l : am_L) (st : List Value) (M : am_M) : Option am_O := match o with
  | some (.ref x) => am_nx pc l (.ref x :: st) M
  | some .null => am_nx pc l (.null :: st) M
  | some (.retAddr x) => am_nx pc l (.retAddr x :: st) M
  | _ => none
def am_sta (i : Nat) (pc : Nat) (l : am_L) (st : List Value) (M : am_M) : Option am_O := match st with
  | .ref x :: r => am_nx pc (am_s1 l i (.ref x)) r M
  | .null :: r => am_nx pc (am_s1 l i .null) r M
  | .retAddr x :: r => am_nx pc (am_s1 l i (.retAddr x)) r M
  | .float x :: r => am_nx pc (am_s1 l i (.float x)) r M
  | _ => none
/-- a field read -/
def am_gf (e : va_E) (a b : Nat) : Option Value := match e with
  | .inr (ci, fs) => if ci = a then fs[b]? else none
  | _ => none
/-- a field written -/
def am_pf (e : va_E) (a b c : Nat) (v : Value) : Option va_E := match e with
  | .inr (ci, fs) => if ci = a ∧ b < fs.length ∧ am_ok c v = true then some (.inr (ci, fs.set b v)) else none
  | _ => none
/-- an array's element read: t the array's kind -/
def am_ai (e : va_E) (t : Nat) (i : Int32) : Option Int32 := match e with
  | .inl (t', n, .inl f) => if t' = t then (if i < 0 ∨ n ≤ i.toNatClampNeg then none else some (f i.toNatClampNeg)) else none
  | _ => none
def am_aj (e : va_E) (i : Int32) : Option Int64 := match e with
  | .inl (t', n, .inr (.inl f)) => if t' = 1 then (if i < 0 ∨ n ≤ i.toNatClampNeg then none else some (f i.toNatClampNeg)) else none
  | _ => none
def am_ad (e : va_E) (i : Int32) : Option UInt64 := match e with
  | .inl (t', n, .inr (.inr (.inr (.inl f)))) => if t' = 3 then (if i < 0 ∨ n ≤ i.toNatClampNeg then none else some (f i.toNatClampNeg)) else none
  | _ => none
def am_aa (e : va_E) (i : Int32) : Option Value := match e with
  | .inl (t', n, .inr (.inr (.inr (.inr f)))) => if 4 ≤ t' ∧ t' ≤ 6 then (if i < 0 ∨ n ≤ i.toNatClampNeg then none else some (va_rf (f i.toNatClampNeg))) else none
  | _ => none
def am_len (e : va_E) : Option Int32 := match e with
  | .inl (t', n, _) => if t' ≤ 6 then some (Int32.ofNat n) else none
  | _ => none
def am_wi (e : va_E) (t : Nat) (i : Int32) (v : Value) : Option va_E := match e, v with
  | .inl (t', n, .inl f), .int x => if t' = t ∧ ¬ (i < 0 ∨ n ≤ i.toNatClampNeg) ∧ am_ok t (.int x) = true then some (.inl (t', n, .inl (va_up f i.toNatClampNeg x))) else none
  | _, _ => none
def am_wj (e : va_E) (i : Int32) (v : Value) : Option va_E := match e, v with
  | .inl (t', n, .inr (.inl f)), .long x => if t' = 1 ∧ ¬ (i < 0 ∨ n ≤ i.toNatClampNeg) then some (.inl (t', n, .inr (.inl (va_up f i.toNatClampNeg x)))) else none
  | _, _ => none
def am_wd (e : va_E) (i : Int32) (v : Value) : Option va_E := match e, v with
  | .inl (t', n, .inr (.inr (.inr (.inl f)))), .double x => if t' = 3 ∧ ¬ (i < 0 ∨ n ≤ i.toNatClampNeg) then some (.inl (t', n, .inr (.inr (.inr (.inl (va_up f i.toNatClampNeg x)))))) else none
  | _, _ => none
/-- the kind of the objects that an array of references of the kind t holds -/
def am_elt (t : Nat) : Nat := match t with
  | 4 => 6
  | 5 => 4
  | 6 => 3
  | _ => 1000
def am_wa (e : va_E) (i : Int32) (x : Nat) (ex : va_E) : Option va_E := match e, ex with
  | .inl (t', n, .inr (.inr (.inr (.inr f)))), .inr (ci, _) => if 4 ≤ t' ∧ t' ≤ 6 ∧ ci = am_elt t' ∧ ¬ (i < 0 ∨ n ≤ i.toNatClampNeg) then some (.inl (t', n, .inr (.inr (.inr (.inr (va_up f i.toNatClampNeg (some x))))))) else none
  | _, _ => none
/-- a new array of the kind t -/
def am_na (t n : Nat) : va_E := match t with
  | 0 => .inl (0, n, .inl (fun _ => 0))
  | 1 => .inl (1, n, .inr (.inl (fun _ => 0)))
  | 2 => .inl (2, n, .inl (fun _ => 0))
  | 3 => .inl (3, n, .inr (.inr (.inr (.inl (fun _ => 0)))))
  | t => .inl (t, n, .inr (.inr (.inr (.inr (fun _ => none)))))
/-- a new object's fields -/
def am_nf (c : Nat) : List Value := match c with
  | 0 => [.double 0, .double 0, .double 0, .double 0, .double 0]
  | 1 => [.long 0, .int 0, .int 0, .null, .null]
  | 2 => [.int 0, .int 0]
  | 3 => [.null, .int 0, .int 0, .long 0, .long 0, .null, .null, .null]
  | 4 => [.int 0, .null, .null, .long 0, .int 0, .long 0, .long 0, .null, .null, .int 0, .long 0, .int 0]
  | 5 => [.null, .null, .null]
  | 6 => [.int 0, .long 0, .long 0, .int 0]
  | 7 => [.null, .null, .int 0, .null, .null, .int 0, .null, .null, .int 0, .null, .null, .int 0, .null, .null, .int 0, .long 0, .long 0, .int 0]
  | _ => [.int 0, .long 0, .int 0, .int 0, .null, .null, .int 0, .long 0, .int 0, .int 0, .int 0, .null, .null, .null, .null, .int 0, .int 0, .int 0, .int 0, .int 0, .int 0, .null, .null, .null, .int 0, .int 0, .int 0, .null, .null, .null, .null, .null, .null, .null, .null, .null, .null, .null, .null, .long 0, .long 0, .int 0, .double 0, .double 0]
def am_exn (c : Nat) : String := match c with
  | 100 => "java/lang/IllegalArgumentException"
  | 101 => "java/lang/IllegalStateException"
  | 102 => "java/lang/IndexOutOfBoundsException"
  | 103 => "java/lang/ArithmeticException"
  | _ => "java/util/NoSuchElementException"
/-- System.arraycopy within its bounds -/
def am_cpi (e0 e1 : va_E) (sp dp n : Int32) : Option va_E := match e0, e1 with
  | .inl (t0, n0, .inl f), .inl (t1, n1, .inl g) => if t0 = 0 ∧ t1 = 0 ∧ ¬ sp < 0 ∧ ¬ dp < 0 ∧ ¬ n < 0 ∧ sp.toNatClampNeg + n.toNatClampNeg ≤ n0 ∧ dp.toNatClampNeg + n.toNatClampNeg ≤ n1 then some (.inl (t1, n1, .inl (va_cpy f g sp.toNatClampNeg dp.toNatClampNeg n.toNatClampNeg))) else none
  | _, _ => none
def am_cpj (e0 e1 : va_E) (sp dp n : Int32) : Option va_E := match e0, e1 with
  | .inl (t0, n0, .inr (.inl f)), .inl (t1, n1, .inr (.inl g)) => if t0 = 1 ∧ t1 = 1 ∧ ¬ sp < 0 ∧ ¬ dp < 0 ∧ ¬ n < 0 ∧ sp.toNatClampNeg + n.toNatClampNeg ≤ n0 ∧ dp.toNatClampNeg + n.toNatClampNeg ≤ n1 then some (.inl (t1, n1, .inr (.inl (va_cpy f g sp.toNatClampNeg dp.toNatClampNeg n.toNatClampNeg)))) else none
  | _, _ => none
/-- the words of a stack -/
def am_wt : List Value → Nat
  | [] => 0
  | v :: r => v.category + am_wt r
def am_cp (a : Nat) (st : List Value) (pc : Nat) (l : am_L) (M : am_M) : Option am_O := match st with
  | .int n :: .int dp :: .ref o1 :: .int sp :: .ref o0 :: r => if 8 < am_wt r then none else ((if a = 4 then am_cpi (am_f M o0) (am_f M o1) sp dp n else am_cpj (am_f M o0) (am_f M o1) sp dp n).bind fun e => am_nx (pc + 3) l r (am_set M o1 e))
  | _ => none
/-- an object of the class that the callee wants -/
def am_rcv (e : va_E) (v : Value) : Bool := match e, v with
  | .inr (ci, _), .retAddr c => ci == c
  | _, _ => false
/-- a call: the arguments (receiver first), the rest -/
def am_inv (a na : Nat) (v : Value) (st : List Value) (M : am_M) : Option am_O :=
  if na ≤ st.length ∧ am_wt (st.drop na) ≤ 8 then
    (if a = 0 ∨ a = 10 then some (.inr (.inr (.inr ((st.take na).reverse, st.drop na))))
     else match (st.take na).reverse with
      | .ref o :: _ => if am_rcv (am_f M o) v = true then some (.inr (.inr (.inr ((st.take na).reverse, st.drop na)))) else none
      | _ => none)
  else none
def am_sw (pc : Nat) (off : Int) (l : am_L) (r : List Value) (M : am_M) : Option am_O := if 0 ≤ (pc : Int) + off then am_nx ((pc : Int) + off).toNat l r M else none
def am_inc (o : Option Value) (i : Nat) (n : Int32) (pc : Nat) (l : am_L) (st : List Value) (M : am_M) : Option am_O := match o with
  | some (.int x) => am_nx pc (am_s1 l i (.int (x + n))) st M
  | _ => none
def am_dup (st : List Value) (pc : Nat) (l : am_L) (M : am_M) : Option am_O := match st with
  | w :: r => if w.category = 1 then am_nx pc l (w :: w :: r) M else none
  | _ => none
def am_dup2 (st : List Value) (pc : Nat) (l : am_L) (M : am_M) : Option am_O := match st with
  | w :: u :: r => if w.category = 1 ∧ u.category = 1 then am_nx pc l (w :: u :: w :: u :: r) M else none
  | _ => none
/-- null: to p1; a reference: to p2 -/
def am_nul (st : List Value) (p1 p2 : Nat) (l : am_L) (M : am_M) : Option am_O := match st with
  | .ref _ :: r => am_nx p2 l r M
  | .null :: r => am_nx p1 l r M
  | _ => none
def am_put (st : List Value) (a b c pc : Nat) (l : am_L) (M : am_M) : Option am_O := match st with
  | w :: .ref o :: r => (am_pf (am_f M o) a b c w).bind fun e => am_nx pc l r (am_set M o e)
  | _ => none
def am_aln (xs : Option (Nat × (Nat → Int32))) (st : List Value) (pc : Nat) (l : am_L) (M : am_M) : Option am_O := match st with
  | .ref o :: r => (am_len (am_f M o)).bind fun n => am_nx pc l (.int n :: r) M
  | .retAddr _ :: r => xs.bind fun q => am_nx pc l (.int (Int32.ofNat q.1) :: r) M
  | _ => none
def am_ial (xs : Option (Nat × (Nat → Int32))) (st : List Value) (pc : Nat) (l : am_L) (M : am_M) : Option am_O := match st with
  | .int i :: .ref o :: r => (am_ai (am_f M o) 0 i).bind fun x => am_nx pc l (.int x :: r) M
  | .int i :: .retAddr _ :: r => xs.bind fun q => if i < 0 ∨ q.1 ≤ i.toNatClampNeg then none else am_nx pc l (.int (q.2 i.toNatClampNeg) :: r) M
  | _ => none
def am_aas (st : List Value) (pc : Nat) (l : am_L) (M : am_M) : Option am_O := match st with
  | .ref x :: .int i :: .ref o :: r => (am_wa (am_f M o) i x (am_f M x)).bind fun e => am_nx pc l r (am_set M o e)
  | _ => none
def am_rti (st : List Value) (c : Nat) : Option am_O := match st with
  | [.int x] => if am_ok c (.int x) = true then some (.inr (.inl (some (.int x)))) else none
  | _ => none
def am_rtj (st : List Value) : Option am_O := match st with
  | [.long x] => some (.inr (.inl (some (.long x))))
  | _ => none
def am_rtd (st : List Value) : Option am_O := match st with
  | [.double x] => some (.inr (.inl (some (.double x))))
  | _ => none
def am_rta (st : List Value) : Option am_O := match st with
  | [.ref x] => some (.inr (.inl (some (.ref x))))
  | [.null] => some (.inr (.inl (some .null)))
  | _ => none
def am_rtv (st : List Value) : Option am_O := match st with
  | [] => some (.inr (.inl none))
  | _ => none
/-- the kinds of instruction by one step; xs: the script, where the frame has it at hand -/
def am_step (xs : Option (Nat × (Nat → Int32))) (i : Instr) (a b c : Nat) (v : Value) (pc : Nat) (l : am_L) (st : List Value) (M : am_M) : Option am_O := match i with
  | .iconst n => am_nx (pc + 1) l (.int (Int32.ofInt n) :: st) M
  | .bipush n => am_nx (pc + 2) l (.int (Int8.ofInt n).toInt32 :: st) M
  | .sipush n => am_nx (pc + 3) l (.int (Int16.ofInt n).toInt32 :: st) M
  | .lconst n => am_nx (pc + 1) l (.long (Int64.ofNat (n : Nat)) :: st) M
  | .dconst n => am_nx (pc + 1) l (.double (if (n : Nat) = 0 then FP.dconst0 else FP.dconst1) :: st) M
  | .aconst_null => am_nx (pc + 1) l (.null :: st) M
  | .ldc _ => if a = 0 then am_nx (pc + 2) l (v :: st) M else none
  | .ldc_w _ => if a = 0 then am_nx (pc + 3) l (v :: st) M else none
  | .ldc2_w _ => if a = 0 then am_nx (pc + 3) l (v :: st) M else none
  | .iload_n k => am_ldi (am_lg l k) (pc + 1) l st M
  | .iload k => am_ldi (am_lg l k) (pc + 2) l st M
  | .lload_n k => am_ldj (am_lg l k) (pc + 1) l st M
  | .lload k => am_ldj (am_lg l k) (pc + 2) l st M
  | .dload_n k => am_ldd (am_lg l k) (pc + 1) l st M
  | .dload k => am_ldd (am_lg l k) (pc + 2) l st M
  | .aload_n k => am_lda (am_lg l k) (pc + 1) l st M
  | .aload k => am_lda (am_lg l k) (pc + 2) l st M
  | .istore_n k => am_i1 st fun x r => am_nx (pc + 1) (am_s1 l k (.int x)) r M
  | .istore k => am_i1 st fun x r => am_nx (pc + 2) (am_s1 l k (.int x)) r M
  | .lstore_n k => am_j1 st fun x r => am_nx (pc + 1) (am_s2 l k (.long x)) r M
  | .lstore k => am_j1 st fun x r => am_nx (pc + 2) (am_s2 l k (.long x)) r M
  | .dstore_n k => am_d1 st fun x r => am_nx (pc + 1) (am_s2 l k (.double x)) r M
  | .dstore k => am_d1 st fun x r => am_nx (pc + 2) (am_s2 l k (.double x)) r M
  | .astore_n k => am_sta k (pc + 1) l st M
  | .astore k => am_sta k (pc + 2) l st M
  | .iinc k n => am_inc (am_lg l k) k (Int32.ofInt n) (pc + 3) l st M
  | .iadd => am_i2 st fun x y r => am_nx (pc + 1) l (.int (x + y) :: r) M
  | .isub => am_i2 st fun x y r => am_nx (pc + 1) l (.int (x - y) :: r) M
  | .imul => am_i2 st fun x y r => am_nx (pc + 1) l (.int (x * y) :: r) M
  | .idiv => am_i2 st fun x y r => if y = 0 then none else am_nx (pc + 1) l (.int (x / y) :: r) M
  | .irem => am_i2 st fun x y r => if y = 0 then none else am_nx (pc + 1) l (.int (x - x / y * y) :: r) M
  | .iand => am_i2 st fun x y r => am_nx (pc + 1) l (.int (x &&& y) :: r) M
  | .ixor => am_i2 st fun x y r => am_nx (pc + 1) l (.int (x ^^^ y) :: r) M
  | .iushr => am_i2 st fun x y r => am_nx (pc + 1) l (.int (x.toUInt32 >>> (y.toUInt32 &&& Int32.toUInt32 31)).toInt32 :: r) M
  | .ladd => am_j2 st fun x y r => am_nx (pc + 1) l (.long (x + y) :: r) M
  | .lsub => am_j2 st fun x y r => am_nx (pc + 1) l (.long (x - y) :: r) M
  | .lmul => am_j2 st fun x y r => am_nx (pc + 1) l (.long (x * y) :: r) M
  | .ldiv => am_j2 st fun x y r => if y = 0 then none else am_nx (pc + 1) l (.long (x / y) :: r) M
  | .lrem => am_j2 st fun x y r => if y = 0 then none else am_nx (pc + 1) l (.long (x - x / y * y) :: r) M
  | .land => am_j2 st fun x y r => am_nx (pc + 1) l (.long (x &&& y) :: r) M
  | .lor => am_j2 st fun x y r => am_nx (pc + 1) l (.long (x ||| y) :: r) M
  | .lxor => am_j2 st fun x y r => am_nx (pc + 1) l (.long (x ^^^ y) :: r) M
  | .lneg => am_j1 st fun x r => am_nx (pc + 1) l (.long (-x) :: r) M
  | .lshl => am_ij st fun x y r => am_nx (pc + 1) l (.long (x <<< (y.toInt64 &&& 63)) :: r) M
  | .lcmp => am_j2 st fun x y r => am_nx (pc + 1) l (.int (lg_cmp x y) :: r) M
  | .dadd => am_d2 st fun x y r => am_nx (pc + 1) l (.double (FP.dadd x y) :: r) M
  | .dsub => am_d2 st fun x y r => am_nx (pc + 1) l (.double (FP.dsub x y) :: r) M
  | .dmul => am_d2 st fun x y r => am_nx (pc + 1) l (.double (FP.dmul x y) :: r) M
  | .ddiv => am_d2 st fun x y r => am_nx (pc + 1) l (.double (FP.ddiv x y) :: r) M
  | .dcmp op => am_d2 st fun x y r => am_nx (pc + 1) l (.int (Op.cmpValue (FP.dcmp x y) op) :: r) M
  | .i2l => am_i1 st fun x r => am_nx (pc + 1) l (.long x.toInt64 :: r) M
  | .l2i => am_j1 st fun x r => am_nx (pc + 1) l (.int x.toInt32 :: r) M
  | .i2d => am_i1 st fun x r => am_nx (pc + 1) l (.double (FP.i2d x) :: r) M
  | .l2d => am_j1 st fun x r => am_nx (pc + 1) l (.double (FP.l2d x) :: r) M
  | .dup => am_dup st (pc + 1) l M
  | .dup2 => am_dup2 st (pc + 1) l M
  | .ifCond .eq _ => am_i1 st fun x r => am_nx (if x = 0 then a else pc + 3) l r M
  | .ifCond .ne _ => am_i1 st fun x r => am_nx (if ¬ x = 0 then a else pc + 3) l r M
  | .ifCond .lt _ => am_i1 st fun x r => am_nx (if x < 0 then a else pc + 3) l r M
  | .ifCond .ge _ => am_i1 st fun x r => am_nx (if 0 ≤ x then a else pc + 3) l r M
  | .ifCond .gt _ => am_i1 st fun x r => am_nx (if 0 < x then a else pc + 3) l r M
  | .ifCond .le _ => am_i1 st fun x r => am_nx (if x ≤ 0 then a else pc + 3) l r M
  | .if_icmp .eq _ => am_i2 st fun x y r => am_nx (if x = y then a else pc + 3) l r M
  | .if_icmp .ne _ => am_i2 st fun x y r => am_nx (if ¬ x = y then a else pc + 3) l r M
  | .if_icmp .lt _ => am_i2 st fun x y r => am_nx (if x < y then a else pc + 3) l r M
  | .if_icmp .ge _ => am_i2 st fun x y r => am_nx (if y ≤ x then a else pc + 3) l r M
  | .if_icmp .gt _ => am_i2 st fun x y r => am_nx (if y < x then a else pc + 3) l r M
  | .if_icmp .le _ => am_i2 st fun x y r => am_nx (if x ≤ y then a else pc + 3) l r M
  | .goto _ => am_nx a l st M
  | .ifnull _ => am_nul st a (pc + 3) l M
  | .ifnonnull _ => am_nul st (pc + 3) a l M
  | .tableswitch dflt lo hi offs => am_i1 st fun x r => if x.toInt < lo ∨ hi < x.toInt then am_sw pc dflt l r M else match offs[(x.toInt - lo).toNat]? with
    | some off => am_sw pc off l r M
    | none => none
  | .getfield _ => am_a1 st fun o r => (am_gf (am_f M o) a b).bind fun w => am_nx (pc + 3) l (w :: r) M
  | .putfield _ => am_put st a b c (pc + 3) l M
  | .arraylength => am_aln xs st (pc + 1) l M
  | .iaload => am_ial xs st (pc + 1) l M
  | .baload => am_ia st fun i o r => (am_ai (am_f M o) 2 i).bind fun x => am_nx (pc + 1) l (.int x :: r) M
  | .laload => am_ia st fun i o r => (am_aj (am_f M o) i).bind fun x => am_nx (pc + 1) l (.long x :: r) M
  | .daload => am_ia st fun i o r => (am_ad (am_f M o) i).bind fun x => am_nx (pc + 1) l (.double x :: r) M
  | .aaload => am_ia st fun i o r => (am_aa (am_f M o) i).bind fun w => am_nx (pc + 1) l (w :: r) M
  | .iastore => am_via st fun w i o r => (am_wi (am_f M o) 0 i w).bind fun e => am_nx (pc + 1) l r (am_set M o e)
  | .bastore => am_via st fun w i o r => (am_wi (am_f M o) 2 i w).bind fun e => am_nx (pc + 1) l r (am_set M o e)
  | .lastore => am_via st fun w i o r => (am_wj (am_f M o) i w).bind fun e => am_nx (pc + 1) l r (am_set M o e)
  | .dastore => am_via st fun w i o r => (am_wd (am_f M o) i w).bind fun e => am_nx (pc + 1) l r (am_set M o e)
  | .aastore => am_aas st (pc + 1) l M
  | .newarray _ => am_i1 st fun n r => if n < 0 ∨ 100000 < n.toNatClampNeg then none else am_nx (pc + 2) l (.ref M.1 :: r) (am_new M n.toNatClampNeg (am_na a n.toNatClampNeg))
  | .anewarray _ => am_i1 st fun n r => if n < 0 ∨ 100000 < n.toNatClampNeg then none else am_nx (pc + 3) l (.ref M.1 :: r) (am_new M n.toNatClampNeg (am_na a n.toNatClampNeg))
  | .new _ => if a < 9 then am_nx (pc + 3) l (.ref M.1 :: st) (am_new M (am_nf a).length (.inr (a, am_nf a))) else if am_wt st ≤ 8 then some (.inr (.inr (.inl a))) else none
  | .ireturn => am_rti st c
  | .lreturn => am_rtj st
  | .dreturn => am_rtd st
  | .areturn => am_rta st
  | .return_ => am_rtv st
  | .invokestatic _ => if a = 4 ∨ a = 5 then am_cp a st pc l M else if a = 0 ∨ a = 10 then am_inv a c v st M else none
  | .invokevirtual _ => if a = 1 then am_inv a c v st M else none
  | .invokespecial _ => if a = 3 then am_a1 st (fun _ r => if 8 < am_wt r then none else am_nx (pc + 3) l r M) else if a = 2 ∨ a = 12 then am_inv a c v st M else none
  | _ => none
