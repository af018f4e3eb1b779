section
variable {xs : Option (Nat × (Nat → Int32))} {l : am_L} {st : List Value} {M : am_M}
theorem xi_80_0 : am_do xs 80 0 l st M = am_ldj (am_lg l 0) 1 l st M := rfl
theorem xi_80_1 : am_do xs 80 1 l st M = am_ldj (am_lg l 2) 2 l st M := rfl
theorem xi_80_2 : am_do xs 80 2 l st M = am_j2 st fun x y r => am_nx 3 l (.int (lg_cmp x y) :: r) M := rfl
theorem xi_80_3 : am_do xs 80 3 l st M = am_i1 st fun x r => am_nx (if x < 0 then 13 else 6) l r M := rfl
theorem xi_80_6 : am_do xs 80 6 l st M = am_ldj (am_lg l 0) 7 l st M := rfl
theorem xi_80_7 : am_do xs 80 7 l st M = am_ldj (am_lg l 4) 9 l st M := rfl
theorem xi_80_9 : am_do xs 80 9 l st M = am_j2 st fun x y r => am_nx 10 l (.int (lg_cmp x y) :: r) M := rfl
theorem xi_80_10 : am_do xs 80 10 l st M = am_i1 st fun x r => am_nx (if x ≤ 0 then 24 else 13) l r M := rfl
theorem xi_80_13 : am_do xs 80 13 l st M = some (.inr (.inr (.inl 100))) := rfl
theorem xi_80_16 : am_do xs 80 16 l st M = am_dup st 17 l M := rfl
theorem xi_80_24 : am_do xs 80 24 l st M = am_rtv st := rfl
theorem xi_43_0 : am_do xs 43 0 l st M = am_ldi (am_lg l 1) 1 l st M := rfl
theorem xi_43_1 : am_do xs 43 1 l st M = am_i1 st fun x r => am_nx 2 l (.long x.toInt64 :: r) M := rfl
theorem xi_43_2 : am_do xs 43 2 l st M = am_nx 3 l (.long 0 :: st) M := rfl
theorem xi_43_3 : am_do xs 43 3 l st M = am_nx 6 l (.long 30000 :: st) M := rfl
theorem xi_43_6 : am_do xs 43 6 l st M = am_inv 0 3 (.retAddr 7) st M := rfl
theorem xt_43_6 : am_to 43 6 = 80 := rfl
theorem xi_43_9 : am_do xs 43 9 l st M = am_lda (am_lg l 0) 10 l st M := rfl
theorem xi_43_10 : am_do xs 43 10 l st M = am_a1 st fun o r => (am_gf (am_f M o) 7 9).bind fun w => am_nx 13 l (w :: r) M := rfl
theorem xi_43_13 : am_do xs 43 13 l st M = am_a1 st fun o r => (am_gf (am_f M o) 2 1).bind fun w => am_nx 16 l (w :: r) M := rfl
theorem xi_43_16 : am_do xs 43 16 l st M = am_i1 st fun x r => am_nx 17 (am_s1 l 2 (.int x)) r M := rfl
theorem xi_43_17 : am_do xs 43 17 l st M = am_lda (am_lg l 0) 18 l st M := rfl
theorem xi_43_18 : am_do xs 43 18 l st M = am_a1 st fun o r => (am_gf (am_f M o) 7 9).bind fun w => am_nx 21 l (w :: r) M := rfl
theorem xi_43_21 : am_do xs 43 21 l st M = am_ldi (am_lg l 1) 22 l st M := rfl
theorem xi_43_22 : am_do xs 43 22 l st M = am_put st 2 1 0 25 l M := rfl
theorem xi_43_25 : am_do xs 43 25 l st M = am_ldi (am_lg l 2) 26 l st M := rfl
theorem xi_43_26 : am_do xs 43 26 l st M = am_rti st 0 := rfl
theorem xi_44_0 : am_do xs 44 0 l st M = am_lda (am_lg l 0) 1 l st M := rfl
theorem xi_44_1 : am_do xs 44 1 l st M = am_a1 st fun o r => (am_gf (am_f M o) 7 9).bind fun w => am_nx 4 l (w :: r) M := rfl
theorem xi_44_4 : am_do xs 44 4 l st M = am_a1 st fun o r => (am_gf (am_f M o) 2 0).bind fun w => am_nx 7 l (w :: r) M := rfl
theorem xi_44_7 : am_do xs 44 7 l st M = am_i1 st fun x r => am_nx 8 (am_s1 l 2 (.int x)) r M := rfl
theorem xi_44_8 : am_do xs 44 8 l st M = am_lda (am_lg l 0) 9 l st M := rfl
theorem xi_44_9 : am_do xs 44 9 l st M = am_a1 st fun o r => (am_gf (am_f M o) 7 9).bind fun w => am_nx 12 l (w :: r) M := rfl
theorem xi_44_12 : am_do xs 44 12 l st M = am_ldi (am_lg l 1) 13 l st M := rfl
theorem xi_44_13 : am_do xs 44 13 l st M = am_put st 2 0 0 16 l M := rfl
theorem xi_44_16 : am_do xs 44 16 l st M = am_ldi (am_lg l 2) 17 l st M := rfl
theorem xi_44_17 : am_do xs 44 17 l st M = am_rti st 0 := rfl
theorem xi_88_0 : am_do xs 88 0 l st M = am_ldj (am_lg l 2) 1 l st M := rfl
theorem xi_88_1 : am_do xs 88 1 l st M = am_nx 2 l (.long 0 :: st) M := rfl
theorem xi_88_2 : am_do xs 88 2 l st M = am_j2 st fun x y r => am_nx 3 l (.int (lg_cmp x y) :: r) M := rfl
theorem xi_88_3 : am_do xs 88 3 l st M = am_i1 st fun x r => am_nx (if 0 < x then 10 else 6) l r M := rfl
theorem xi_88_6 : am_do xs 88 6 l st M = am_nx 7 l (.long 0 :: st) M := rfl
theorem xi_88_7 : am_do xs 88 7 l st M = am_nx 15 l st M := rfl
theorem xi_88_10 : am_do xs 88 10 l st M = am_ldj (am_lg l 0) 11 l st M := rfl
theorem xi_88_11 : am_do xs 88 11 l st M = am_ldj (am_lg l 2) 12 l st M := rfl
theorem xi_88_12 : am_do xs 88 12 l st M = am_inv 0 2 (.retAddr 100) st M := rfl
theorem xt_88_12 : am_to 88 12 = 1 := rfl
theorem xi_88_15 : am_do xs 88 15 l st M = am_rtj st := rfl
theorem xi_1_0 : am_do xs 1 0 l st M = am_ldj (am_lg l 0) 1 l st M := rfl
theorem xi_1_1 : am_do xs 1 1 l st M = am_ldj (am_lg l 2) 2 l st M := rfl
theorem xi_1_2 : am_do xs 1 2 l st M = am_j2 st fun x y r => if y = 0 then none else am_nx 3 l (.long (x / y) :: r) M := rfl
theorem xi_1_3 : am_do xs 1 3 l st M = am_j1 st fun x r => am_nx 5 (am_s2 l 4 (.long x)) r M := rfl
theorem xi_1_5 : am_do xs 1 5 l st M = am_ldj (am_lg l 0) 6 l st M := rfl
theorem xi_1_6 : am_do xs 1 6 l st M = am_ldj (am_lg l 2) 7 l st M := rfl
theorem xi_1_7 : am_do xs 1 7 l st M = am_j2 st fun x y r => am_nx 8 l (.long (x ^^^ y) :: r) M := rfl
theorem xi_1_8 : am_do xs 1 8 l st M = am_nx 9 l (.long 0 :: st) M := rfl
theorem xi_1_9 : am_do xs 1 9 l st M = am_j2 st fun x y r => am_nx 10 l (.int (lg_cmp x y) :: r) M := rfl
theorem xi_1_10 : am_do xs 1 10 l st M = am_i1 st fun x r => am_nx (if 0 ≤ x then 27 else 13) l r M := rfl
theorem xi_1_13 : am_do xs 1 13 l st M = am_ldj (am_lg l 4) 15 l st M := rfl
theorem xi_1_15 : am_do xs 1 15 l st M = am_ldj (am_lg l 2) 16 l st M := rfl
theorem xi_1_16 : am_do xs 1 16 l st M = am_j2 st fun x y r => am_nx 17 l (.long (x * y) :: r) M := rfl
theorem xi_1_17 : am_do xs 1 17 l st M = am_ldj (am_lg l 0) 18 l st M := rfl
theorem xi_1_18 : am_do xs 1 18 l st M = am_j2 st fun x y r => am_nx 19 l (.int (lg_cmp x y) :: r) M := rfl
theorem xi_1_19 : am_do xs 1 19 l st M = am_i1 st fun x r => am_nx (if x = 0 then 27 else 22) l r M := rfl
theorem xi_1_22 : am_do xs 1 22 l st M = am_ldj (am_lg l 4) 24 l st M := rfl
theorem xi_1_24 : am_do xs 1 24 l st M = am_nx 25 l (.long 1 :: st) M := rfl
theorem xi_1_25 : am_do xs 1 25 l st M = am_j2 st fun x y r => am_nx 26 l (.long (x - y) :: r) M := rfl
theorem xi_1_26 : am_do xs 1 26 l st M = am_rtj st := rfl
theorem xi_1_27 : am_do xs 1 27 l st M = am_ldj (am_lg l 4) 29 l st M := rfl
theorem xi_1_29 : am_do xs 1 29 l st M = am_rtj st := rfl
end
