/-! doubles up to the bits of a NaN -/
theorem fp_nan {x : UInt64} (h : isNaN64 x = true) : FP.Core.decode FP.Core.b64 x.toNat = .nan := by
  have h1 := isNaN64_iff.mp h
  have h2 : x.toNat &&& 0x7fffffffffffffff = x.toNat % 2 ^ 63 := Nat.and_two_pow_sub_one_eq_mod x.toNat 63
  rw [h2] at h1
  have hl : x.toNat < 2 ^ 64 := x.toNat_lt
  have e1 : FP.Core.fieldE FP.Core.b64 x.toNat = x.toNat / 4503599627370496 % 2048 := rfl
  have e2 : FP.Core.fieldT FP.Core.b64 x.toNat = x.toNat % 4503599627370496 := rfl
  have e3 : FP.Core.b64.exps - 1 = 2047 := rfl
  unfold FP.Core.decode
  rw [e1, e2, e3, if_pos (by omega), if_neg (by omega)]
def fp_N : UInt64 := .ofNat (FP.Core.encode FP.Core.b64 .nan)
theorem fp_N_nan : isNaN64 fp_N = true := by decide +kernel
theorem fp_add1 {x y : UInt64} (h : isNaN64 x = true) : FP.dadd x y = fp_N := by
  unfold FP.dadd FP.Core.dadd FP.Core.add; rw [fp_nan h]; rfl
theorem fp_add2 {x y : UInt64} (h : isNaN64 y = true) : FP.dadd x y = fp_N := by
  unfold FP.dadd FP.Core.dadd FP.Core.add; rw [fp_nan h]; cases FP.Core.decode FP.Core.b64 x.toNat <;> rfl
theorem fp_sub1 {x y : UInt64} (h : isNaN64 x = true) : FP.dsub x y = fp_N := by
  unfold FP.dsub FP.Core.dsub FP.Core.sub; rw [fp_nan h]; rfl
theorem fp_sub2 {x y : UInt64} (h : isNaN64 y = true) : FP.dsub x y = fp_N := by
  unfold FP.dsub FP.Core.dsub FP.Core.sub; rw [fp_nan h]; cases FP.Core.decode FP.Core.b64 x.toNat <;> rfl
theorem fp_mul1 {x y : UInt64} (h : isNaN64 x = true) : FP.dmul x y = fp_N := by
  unfold FP.dmul FP.Core.dmul FP.Core.mul; rw [fp_nan h]; rfl
theorem fp_mul2 {x y : UInt64} (h : isNaN64 y = true) : FP.dmul x y = fp_N := by
  unfold FP.dmul FP.Core.dmul FP.Core.mul; rw [fp_nan h]; cases FP.Core.decode FP.Core.b64 x.toNat <;> rfl
theorem fp_div1 {x y : UInt64} (h : isNaN64 x = true) : FP.ddiv x y = fp_N := by
  unfold FP.ddiv FP.Core.ddiv FP.Core.div; rw [fp_nan h]; rfl
theorem fp_div2 {x y : UInt64} (h : isNaN64 y = true) : FP.ddiv x y = fp_N := by
  unfold FP.ddiv FP.Core.ddiv FP.Core.div; rw [fp_nan h]; cases FP.Core.decode FP.Core.b64 x.toNat <;> rfl
theorem fp_cmp1 {x y : UInt64} (h : isNaN64 x = true) : FP.dcmp x y = none := by
  unfold FP.dcmp FP.Core.dcmp FP.Core.cmp; rw [fp_nan h]; rfl
theorem fp_cmp2 {x y : UInt64} (h : isNaN64 y = true) : FP.dcmp x y = none := by
  unfold FP.dcmp FP.Core.dcmp FP.Core.cmp; rw [fp_nan h]; cases FP.Core.decode FP.Core.b64 x.toNat <;> rfl
theorem fp_al {x y : UInt64} (h : alike64 x y = true) : x = y ∨ (isNaN64 x = true ∧ isNaN64 y = true) := by
  simpa [alike64] using h
theorem fp_of {x y : UInt64} (h : x = y ∨ (isNaN64 x = true ∧ isNaN64 y = true)) : alike64 x y = true := by
  simpa [alike64] using h
theorem fp_tr {x y z : UInt64} (h : alike64 x y = true) (g : alike64 y z = true) : alike64 x z = true := by
  rcases fp_al h with rfl | ⟨h1, h2⟩
  · exact g
  · rcases fp_al g with rfl | ⟨h3, h4⟩
    · exact h
    · exact fp_of (Or.inr ⟨h1, h4⟩)
/-- an operation that answers the NaN wherever an operand is one keeps likeness -/
theorem fp_op {f : UInt64 → UInt64 → UInt64} (h1 : ∀ {x y}, isNaN64 x = true → f x y = fp_N) (h2 : ∀ {x y}, isNaN64 y = true → f x y = fp_N) {a b x y r : UInt64} (ha : alike64 a x = true) (hb : alike64 b y = true) (hr : alike64 r (f a b) = true) : alike64 r (f x y) = true := by
  refine fp_tr hr ?_
  rcases fp_al ha with rfl | ⟨n1, n2⟩
  · rcases fp_al hb with rfl | ⟨n3, n4⟩
    · exact alike64_refl _
    · rw [h2 n3, h2 n4]; exact alike64_refl _
  · rw [h1 n1, h1 n2]; exact alike64_refl _
theorem fp_cmp {a b x y : UInt64} (ha : alike64 a x = true) (hb : alike64 b y = true) : FP.dcmp a b = FP.dcmp x y := by
  rcases fp_al ha with rfl | ⟨n1, n2⟩
  · rcases fp_al hb with rfl | ⟨n3, n4⟩
    · rfl
    · rw [fp_cmp2 n3, fp_cmp2 n4]
  · rw [fp_cmp1 n1, fp_cmp1 n2]
