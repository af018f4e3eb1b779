section
variable {xs : Option (Nat × (Nat → Int32))} {l : am_L} {st : List Value} {M : am_M}
theorem xi_0_0 : am_do xs 0 0 l st M = am_ldi (am_lg l 0) 1 l st M := rfl
theorem xi_0_1 : am_do xs 0 1 l st M = am_ldi (am_lg l 1) 2 l st M := rfl
theorem xi_0_2 : am_do xs 0 2 l st M = am_i2 st fun x y r => if y = 0 then none else am_nx 3 l (.int (x / y) :: r) M := rfl
theorem xi_0_3 : am_do xs 0 3 l st M = am_i1 st fun x r => am_nx 4 (am_s1 l 2 (.int x)) r M := rfl
theorem xi_0_4 : am_do xs 0 4 l st M = am_ldi (am_lg l 0) 5 l st M := rfl
theorem xi_0_5 : am_do xs 0 5 l st M = am_ldi (am_lg l 1) 6 l st M := rfl
theorem xi_0_6 : am_do xs 0 6 l st M = am_i2 st fun x y r => am_nx 7 l (.int (x ^^^ y) :: r) M := rfl
theorem xi_0_7 : am_do xs 0 7 l st M = am_i1 st fun x r => am_nx (if 0 ≤ x then 21 else 10) l r M := rfl
theorem xi_0_10 : am_do xs 0 10 l st M = am_ldi (am_lg l 2) 11 l st M := rfl
theorem xi_0_11 : am_do xs 0 11 l st M = am_ldi (am_lg l 1) 12 l st M := rfl
theorem xi_0_12 : am_do xs 0 12 l st M = am_i2 st fun x y r => am_nx 13 l (.int (x * y) :: r) M := rfl
theorem xi_0_13 : am_do xs 0 13 l st M = am_ldi (am_lg l 0) 14 l st M := rfl
theorem xi_0_14 : am_do xs 0 14 l st M = am_i2 st fun x y r => am_nx (if x = y then 21 else 17) l r M := rfl
theorem xi_0_17 : am_do xs 0 17 l st M = am_ldi (am_lg l 2) 18 l st M := rfl
theorem xi_0_18 : am_do xs 0 18 l st M = am_nx 19 l (.int 1 :: st) M := rfl
theorem xi_0_19 : am_do xs 0 19 l st M = am_i2 st fun x y r => am_nx 20 l (.int (x - y) :: r) M := rfl
theorem xi_0_20 : am_do xs 0 20 l st M = am_rti st 0 := rfl
theorem xi_0_21 : am_do xs 0 21 l st M = am_ldi (am_lg l 2) 22 l st M := rfl
theorem xi_0_22 : am_do xs 0 22 l st M = am_rti st 0 := rfl
theorem xi_1_0 : am_do xs 1 0 l st M = am_ldj (am_lg l 0) 1 l st M := rfl
theorem xi_1_1 : am_do xs 1 1 l st M = am_ldj (am_lg l 2) 2 l st M := rfl
theorem xi_1_2 : am_do xs 1 2 l st M = am_j2 st fun x y r => if y = 0 then none else am_nx 3 l (.long (x / y) :: r) M := rfl
theorem xi_1_3 : am_do xs 1 3 l st M = am_j1 st fun x r => am_nx 5 (am_s2 l 4 (.long x)) r M := rfl
theorem xi_1_5 : am_do xs 1 5 l st M = am_ldj (am_lg l 0) 6 l st M := rfl
theorem xi_1_6 : am_do xs 1 6 l st M = am_ldj (am_lg l 2) 7 l st M := rfl
theorem xi_1_7 : am_do xs 1 7 l st M = am_j2 st fun x y r => am_nx 8 l (.long (x ^^^ y) :: r) M := rfl
theorem xi_1_8 : am_do xs 1 8 l st M = am_nx 9 l (.long 0 :: st) M := rfl
theorem xi_1_9 : am_do xs 1 9 l st M = am_j2 st fun x y r => am_nx 10 l (.int (lg_cmp x y) :: r) M := rfl
theorem xi_1_10 : am_do xs 1 10 l st M = am_i1 st fun x r => am_nx (if 0 ≤ x then 27 else 13) l r M := rfl
theorem xi_1_13 : am_do xs 1 13 l st M = am_ldj (am_lg l 4) 15 l st M := rfl
theorem xi_1_15 : am_do xs 1 15 l st M = am_ldj (am_lg l 2) 16 l st M := rfl
theorem xi_1_16 : am_do xs 1 16 l st M = am_j2 st fun x y r => am_nx 17 l (.long (x * y) :: r) M := rfl
theorem xi_1_17 : am_do xs 1 17 l st M = am_ldj (am_lg l 0) 18 l st M := rfl
theorem xi_1_18 : am_do xs 1 18 l st M = am_j2 st fun x y r => am_nx 19 l (.int (lg_cmp x y) :: r) M := rfl
theorem xi_1_19 : am_do xs 1 19 l st M = am_i1 st fun x r => am_nx (if x = 0 then 27 else 22) l r M := rfl
theorem xi_1_22 : am_do xs 1 22 l st M = am_ldj (am_lg l 4) 24 l st M := rfl
theorem xi_1_24 : am_do xs 1 24 l st M = am_nx 25 l (.long 1 :: st) M := rfl
theorem xi_1_25 : am_do xs 1 25 l st M = am_j2 st fun x y r => am_nx 26 l (.long (x - y) :: r) M := rfl
theorem xi_1_26 : am_do xs 1 26 l st M = am_rtj st := rfl
theorem xi_1_27 : am_do xs 1 27 l st M = am_ldj (am_lg l 4) 29 l st M := rfl
theorem xi_1_29 : am_do xs 1 29 l st M = am_rtj st := rfl
theorem xi_2_0 : am_do xs 2 0 l st M = am_ldj (am_lg l 0) 1 l st M := rfl
theorem xi_2_1 : am_do xs 2 1 l st M = am_nx 2 l (.long 0 :: st) M := rfl
theorem xi_2_2 : am_do xs 2 2 l st M = am_j2 st fun x y r => am_nx 3 l (.int (lg_cmp x y) :: r) M := rfl
theorem xi_2_3 : am_do xs 2 3 l st M = am_i1 st fun x r => am_nx (if 0 ≤ x then 11 else 6) l r M := rfl
theorem xi_2_6 : am_do xs 2 6 l st M = am_ldj (am_lg l 0) 7 l st M := rfl
theorem xi_2_7 : am_do xs 2 7 l st M = am_j1 st fun x r => am_nx 8 l (.long (-x) :: r) M := rfl
theorem xi_2_8 : am_do xs 2 8 l st M = am_nx 12 l st M := rfl
theorem xi_2_11 : am_do xs 2 11 l st M = am_ldj (am_lg l 0) 12 l st M := rfl
theorem xi_2_12 : am_do xs 2 12 l st M = am_rtj st := rfl
theorem xi_3_0 : am_do xs 3 0 l st M = am_ldi (am_lg l 0) 1 l st M := rfl
theorem xi_3_1 : am_do xs 3 1 l st M = am_ldi (am_lg l 1) 2 l st M := rfl
theorem xi_3_2 : am_do xs 3 2 l st M = am_i2 st fun x y r => am_nx (if x < y then 9 else 5) l r M := rfl
theorem xi_3_5 : am_do xs 3 5 l st M = am_ldi (am_lg l 0) 6 l st M := rfl
theorem xi_3_6 : am_do xs 3 6 l st M = am_nx 10 l st M := rfl
theorem xi_3_9 : am_do xs 3 9 l st M = am_ldi (am_lg l 1) 10 l st M := rfl
theorem xi_3_10 : am_do xs 3 10 l st M = am_rti st 0 := rfl
theorem xi_4_0 : am_do xs 4 0 l st M = am_ldi (am_lg l 0) 1 l st M := rfl
theorem xi_4_1 : am_do xs 4 1 l st M = am_ldi (am_lg l 1) 2 l st M := rfl
theorem xi_4_2 : am_do xs 4 2 l st M = am_i2 st fun x y r => am_nx (if y < x then 9 else 5) l r M := rfl
theorem xi_4_5 : am_do xs 4 5 l st M = am_ldi (am_lg l 0) 6 l st M := rfl
theorem xi_4_6 : am_do xs 4 6 l st M = am_nx 10 l st M := rfl
theorem xi_4_9 : am_do xs 4 9 l st M = am_ldi (am_lg l 1) 10 l st M := rfl
theorem xi_4_10 : am_do xs 4 10 l st M = am_rti st 0 := rfl
theorem xi_5_0 : am_do xs 5 0 l st M = am_ldi (am_lg l 1) 1 l st M := rfl
theorem xi_5_1 : am_do xs 5 1 l st M = am_lda (am_lg l 0) 2 l st M := rfl
theorem xi_5_2 : am_do xs 5 2 l st M = am_aln xs st 3 l M := rfl
theorem xi_5_3 : am_do xs 5 3 l st M = am_i2 st fun x y r => am_nx (if ¬ x = y then 14 else 6) l r M := rfl
theorem xi_5_6 : am_do xs 5 6 l st M = am_lda (am_lg l 0) 7 l st M := rfl
theorem xi_5_13 : am_do xs 5 13 l st M = am_rta st := rfl
theorem xi_5_14 : am_do xs 5 14 l st M = am_ldi (am_lg l 1) 15 l st M := rfl
theorem xi_5_15 : am_do xs 5 15 l st M = am_i1 st fun n r => if n < 0 ∨ 100000 < n.toNatClampNeg then none else am_nx 17 l (.ref M.1 :: r) (am_new M n.toNatClampNeg (am_na 1 n.toNatClampNeg)) := rfl
theorem xi_5_17 : am_do xs 5 17 l st M = am_sta 2 18 l st M := rfl
theorem xi_5_18 : am_do xs 5 18 l st M = am_lda (am_lg l 0) 19 l st M := rfl
theorem xi_5_19 : am_do xs 5 19 l st M = am_nx 20 l (.int 0 :: st) M := rfl
theorem xi_5_20 : am_do xs 5 20 l st M = am_lda (am_lg l 2) 21 l st M := rfl
theorem xi_5_21 : am_do xs 5 21 l st M = am_nx 22 l (.int 0 :: st) M := rfl
theorem xi_5_22 : am_do xs 5 22 l st M = am_lda (am_lg l 0) 23 l st M := rfl
theorem xi_5_23 : am_do xs 5 23 l st M = am_aln xs st 24 l M := rfl
theorem xi_5_24 : am_do xs 5 24 l st M = am_ldi (am_lg l 1) 25 l st M := rfl
theorem xi_5_25 : am_do xs 5 25 l st M = am_inv 0 2 (.retAddr 100) st M := rfl
theorem xt_5_25 : am_to 5 25 = 4 := rfl
theorem xi_5_28 : am_do xs 5 28 l st M = am_cp 5 st 28 l M := rfl
theorem xi_5_31 : am_do xs 5 31 l st M = am_lda (am_lg l 2) 32 l st M := rfl
theorem xi_5_32 : am_do xs 5 32 l st M = am_rta st := rfl
theorem xi_6_0 : am_do xs 6 0 l st M = am_lda (am_lg l 0) 1 l st M := rfl
theorem xi_6_1 : am_do xs 6 1 l st M = am_a1 st fun _ r => if 8 < am_wt r then none else am_nx 4 l r M := rfl
theorem xi_6_4 : am_do xs 6 4 l st M = am_lda (am_lg l 0) 5 l st M := rfl
theorem xi_6_5 : am_do xs 6 5 l st M = am_nx 6 l (.double FP.dconst0 :: st) M := rfl
theorem xi_6_6 : am_do xs 6 6 l st M = am_put st 0 0 3 9 l M := rfl
theorem xi_6_9 : am_do xs 6 9 l st M = am_lda (am_lg l 0) 10 l st M := rfl
theorem xi_6_10 : am_do xs 6 10 l st M = am_nx 11 l (.double FP.dconst0 :: st) M := rfl
theorem xi_6_11 : am_do xs 6 11 l st M = am_put st 0 1 3 14 l M := rfl
theorem xi_6_14 : am_do xs 6 14 l st M = am_lda (am_lg l 0) 15 l st M := rfl
theorem xi_6_15 : am_do xs 6 15 l st M = am_nx 16 l (.double FP.dconst0 :: st) M := rfl
theorem xi_6_16 : am_do xs 6 16 l st M = am_put st 0 2 3 19 l M := rfl
theorem xi_6_19 : am_do xs 6 19 l st M = am_lda (am_lg l 0) 20 l st M := rfl
theorem xi_6_20 : am_do xs 6 20 l st M = am_nx 21 l (.double FP.dconst0 :: st) M := rfl
theorem xi_6_21 : am_do xs 6 21 l st M = am_put st 0 3 3 24 l M := rfl
theorem xi_6_24 : am_do xs 6 24 l st M = am_lda (am_lg l 0) 25 l st M := rfl
theorem xi_6_25 : am_do xs 6 25 l st M = am_nx 26 l (.double FP.dconst0 :: st) M := rfl
theorem xi_6_26 : am_do xs 6 26 l st M = am_put st 0 4 3 29 l M := rfl
theorem xi_6_29 : am_do xs 6 29 l st M = am_rtv st := rfl
theorem xi_7_0 : am_do xs 7 0 l st M = am_lda (am_lg l 0) 1 l st M := rfl
theorem xi_7_1 : am_do xs 7 1 l st M = am_dup st 2 l M := rfl
theorem xi_7_2 : am_do xs 7 2 l st M = am_a1 st fun o r => (am_gf (am_f M o) 0 0).bind fun w => am_nx 5 l (w :: r) M := rfl
theorem xi_7_5 : am_do xs 7 5 l st M = am_nx 6 l (.double FP.dconst1 :: st) M := rfl
theorem xi_7_6 : am_do xs 7 6 l st M = am_d2 st fun x y r => am_nx 7 l (.double (FP.dadd x y) :: r) M := rfl
theorem xi_7_7 : am_do xs 7 7 l st M = am_put st 0 0 3 10 l M := rfl
theorem xi_7_10 : am_do xs 7 10 l st M = am_lda (am_lg l 0) 11 l st M := rfl
theorem xi_7_11 : am_do xs 7 11 l st M = am_dup st 12 l M := rfl
theorem xi_7_12 : am_do xs 7 12 l st M = am_a1 st fun o r => (am_gf (am_f M o) 0 1).bind fun w => am_nx 15 l (w :: r) M := rfl
theorem xi_7_15 : am_do xs 7 15 l st M = am_ldd (am_lg l 1) 16 l st M := rfl
theorem xi_7_16 : am_do xs 7 16 l st M = am_d2 st fun x y r => am_nx 17 l (.double (FP.dadd x y) :: r) M := rfl
theorem xi_7_17 : am_do xs 7 17 l st M = am_put st 0 1 3 20 l M := rfl
theorem xi_7_20 : am_do xs 7 20 l st M = am_lda (am_lg l 0) 21 l st M := rfl
theorem xi_7_21 : am_do xs 7 21 l st M = am_dup st 22 l M := rfl
theorem xi_7_22 : am_do xs 7 22 l st M = am_a1 st fun o r => (am_gf (am_f M o) 0 2).bind fun w => am_nx 25 l (w :: r) M := rfl
theorem xi_7_25 : am_do xs 7 25 l st M = am_ldd (am_lg l 3) 26 l st M := rfl
theorem xi_7_26 : am_do xs 7 26 l st M = am_d2 st fun x y r => am_nx 27 l (.double (FP.dadd x y) :: r) M := rfl
theorem xi_7_27 : am_do xs 7 27 l st M = am_put st 0 2 3 30 l M := rfl
theorem xi_7_30 : am_do xs 7 30 l st M = am_lda (am_lg l 0) 31 l st M := rfl
theorem xi_7_31 : am_do xs 7 31 l st M = am_dup st 32 l M := rfl
theorem xi_7_32 : am_do xs 7 32 l st M = am_a1 st fun o r => (am_gf (am_f M o) 0 3).bind fun w => am_nx 35 l (w :: r) M := rfl
theorem xi_7_35 : am_do xs 7 35 l st M = am_ldd (am_lg l 1) 36 l st M := rfl
theorem xi_7_36 : am_do xs 7 36 l st M = am_ldd (am_lg l 1) 37 l st M := rfl
theorem xi_7_37 : am_do xs 7 37 l st M = am_d2 st fun x y r => am_nx 38 l (.double (FP.dmul x y) :: r) M := rfl
theorem xi_7_38 : am_do xs 7 38 l st M = am_d2 st fun x y r => am_nx 39 l (.double (FP.dadd x y) :: r) M := rfl
theorem xi_7_39 : am_do xs 7 39 l st M = am_put st 0 3 3 42 l M := rfl
theorem xi_7_42 : am_do xs 7 42 l st M = am_lda (am_lg l 0) 43 l st M := rfl
theorem xi_7_43 : am_do xs 7 43 l st M = am_dup st 44 l M := rfl
theorem xi_7_44 : am_do xs 7 44 l st M = am_a1 st fun o r => (am_gf (am_f M o) 0 4).bind fun w => am_nx 47 l (w :: r) M := rfl
theorem xi_7_47 : am_do xs 7 47 l st M = am_ldd (am_lg l 1) 48 l st M := rfl
theorem xi_7_48 : am_do xs 7 48 l st M = am_ldd (am_lg l 3) 49 l st M := rfl
theorem xi_7_49 : am_do xs 7 49 l st M = am_d2 st fun x y r => am_nx 50 l (.double (FP.dmul x y) :: r) M := rfl
theorem xi_7_50 : am_do xs 7 50 l st M = am_d2 st fun x y r => am_nx 51 l (.double (FP.dadd x y) :: r) M := rfl
theorem xi_7_51 : am_do xs 7 51 l st M = am_put st 0 4 3 54 l M := rfl
theorem xi_7_54 : am_do xs 7 54 l st M = am_rtv st := rfl
theorem xi_8_0 : am_do xs 8 0 l st M = am_lda (am_lg l 0) 1 l st M := rfl
theorem xi_8_1 : am_do xs 8 1 l st M = am_a1 st fun o r => (am_gf (am_f M o) 0 0).bind fun w => am_nx 4 l (w :: r) M := rfl
theorem xi_8_4 : am_do xs 8 4 l st M = am_lda (am_lg l 0) 5 l st M := rfl
theorem xi_8_5 : am_do xs 8 5 l st M = am_a1 st fun o r => (am_gf (am_f M o) 0 4).bind fun w => am_nx 8 l (w :: r) M := rfl
theorem xi_8_8 : am_do xs 8 8 l st M = am_d2 st fun x y r => am_nx 9 l (.double (FP.dmul x y) :: r) M := rfl
theorem xi_8_9 : am_do xs 8 9 l st M = am_lda (am_lg l 0) 10 l st M := rfl
theorem xi_8_10 : am_do xs 8 10 l st M = am_a1 st fun o r => (am_gf (am_f M o) 0 1).bind fun w => am_nx 13 l (w :: r) M := rfl
theorem xi_8_13 : am_do xs 8 13 l st M = am_lda (am_lg l 0) 14 l st M := rfl
theorem xi_8_14 : am_do xs 8 14 l st M = am_a1 st fun o r => (am_gf (am_f M o) 0 2).bind fun w => am_nx 17 l (w :: r) M := rfl
theorem xi_8_17 : am_do xs 8 17 l st M = am_d2 st fun x y r => am_nx 18 l (.double (FP.dmul x y) :: r) M := rfl
theorem xi_8_18 : am_do xs 8 18 l st M = am_d2 st fun x y r => am_nx 19 l (.double (FP.dsub x y) :: r) M := rfl
theorem xi_8_19 : am_do xs 8 19 l st M = am_lda (am_lg l 0) 20 l st M := rfl
theorem xi_8_20 : am_do xs 8 20 l st M = am_a1 st fun o r => (am_gf (am_f M o) 0 0).bind fun w => am_nx 23 l (w :: r) M := rfl
theorem xi_8_23 : am_do xs 8 23 l st M = am_lda (am_lg l 0) 24 l st M := rfl
theorem xi_8_24 : am_do xs 8 24 l st M = am_a1 st fun o r => (am_gf (am_f M o) 0 3).bind fun w => am_nx 27 l (w :: r) M := rfl
theorem xi_8_27 : am_do xs 8 27 l st M = am_d2 st fun x y r => am_nx 28 l (.double (FP.dmul x y) :: r) M := rfl
theorem xi_8_28 : am_do xs 8 28 l st M = am_lda (am_lg l 0) 29 l st M := rfl
theorem xi_8_29 : am_do xs 8 29 l st M = am_a1 st fun o r => (am_gf (am_f M o) 0 1).bind fun w => am_nx 32 l (w :: r) M := rfl
theorem xi_8_32 : am_do xs 8 32 l st M = am_lda (am_lg l 0) 33 l st M := rfl
theorem xi_8_33 : am_do xs 8 33 l st M = am_a1 st fun o r => (am_gf (am_f M o) 0 1).bind fun w => am_nx 36 l (w :: r) M := rfl
theorem xi_8_36 : am_do xs 8 36 l st M = am_d2 st fun x y r => am_nx 37 l (.double (FP.dmul x y) :: r) M := rfl
theorem xi_8_37 : am_do xs 8 37 l st M = am_d2 st fun x y r => am_nx 38 l (.double (FP.dsub x y) :: r) M := rfl
theorem xi_8_38 : am_do xs 8 38 l st M = am_d2 st fun x y r => am_nx 39 l (.double (FP.ddiv x y) :: r) M := rfl
theorem xi_8_39 : am_do xs 8 39 l st M = am_rtd st := rfl
theorem xi_9_0 : am_do xs 9 0 l st M = am_lda (am_lg l 0) 1 l st M := rfl
theorem xi_9_1 : am_do xs 9 1 l st M = am_a1 st fun o r => (am_gf (am_f M o) 0 2).bind fun w => am_nx 4 l (w :: r) M := rfl
theorem xi_9_4 : am_do xs 9 4 l st M = am_lda (am_lg l 0) 5 l st M := rfl
theorem xi_9_5 : am_do xs 9 5 l st M = am_inv 1 1 (.retAddr 0) st M := rfl
theorem xt_9_5 : am_to 9 5 = 8 := rfl
theorem xi_9_8 : am_do xs 9 8 l st M = am_lda (am_lg l 0) 9 l st M := rfl
theorem xi_9_9 : am_do xs 9 9 l st M = am_a1 st fun o r => (am_gf (am_f M o) 0 1).bind fun w => am_nx 12 l (w :: r) M := rfl
theorem xi_9_12 : am_do xs 9 12 l st M = am_d2 st fun x y r => am_nx 13 l (.double (FP.dmul x y) :: r) M := rfl
theorem xi_9_13 : am_do xs 9 13 l st M = am_d2 st fun x y r => am_nx 14 l (.double (FP.dsub x y) :: r) M := rfl
theorem xi_9_14 : am_do xs 9 14 l st M = am_lda (am_lg l 0) 15 l st M := rfl
theorem xi_9_15 : am_do xs 9 15 l st M = am_a1 st fun o r => (am_gf (am_f M o) 0 0).bind fun w => am_nx 18 l (w :: r) M := rfl
theorem xi_9_18 : am_do xs 9 18 l st M = am_d2 st fun x y r => am_nx 19 l (.double (FP.ddiv x y) :: r) M := rfl
theorem xi_9_19 : am_do xs 9 19 l st M = am_rtd st := rfl
theorem xi_10_0 : am_do xs 10 0 l st M = am_lda (am_lg l 0) 1 l st M := rfl
theorem xi_10_1 : am_do xs 10 1 l st M = am_a1 st fun _ r => if 8 < am_wt r then none else am_nx 4 l r M := rfl
theorem xi_10_4 : am_do xs 10 4 l st M = am_lda (am_lg l 0) 5 l st M := rfl
theorem xi_10_5 : am_do xs 10 5 l st M = am_nx 6 l (.long 0 :: st) M := rfl
theorem xi_10_6 : am_do xs 10 6 l st M = am_put st 1 0 1 9 l M := rfl
theorem xi_10_9 : am_do xs 10 9 l st M = am_lda (am_lg l 0) 10 l st M := rfl
theorem xi_10_10 : am_do xs 10 10 l st M = am_nx 11 l (.int 0 :: st) M := rfl
theorem xi_10_11 : am_do xs 10 11 l st M = am_put st 1 1 0 14 l M := rfl
theorem xi_10_14 : am_do xs 10 14 l st M = am_lda (am_lg l 0) 15 l st M := rfl
theorem xi_10_15 : am_do xs 10 15 l st M = am_nx 16 l (.int 0 :: st) M := rfl
theorem xi_10_16 : am_do xs 10 16 l st M = am_put st 1 2 0 19 l M := rfl
theorem xi_10_19 : am_do xs 10 19 l st M = am_lda (am_lg l 0) 20 l st M := rfl
theorem xi_10_20 : am_do xs 10 20 l st M = am_nx 22 l (.int 20 :: st) M := rfl
theorem xi_10_22 : am_do xs 10 22 l st M = am_i1 st fun n r => if n < 0 ∨ 100000 < n.toNatClampNeg then none else am_nx 24 l (.ref M.1 :: r) (am_new M n.toNatClampNeg (am_na 0 n.toNatClampNeg)) := rfl
theorem xi_10_24 : am_do xs 10 24 l st M = am_put st 1 3 4 27 l M := rfl
theorem xi_10_27 : am_do xs 10 27 l st M = am_lda (am_lg l 0) 28 l st M := rfl
theorem xi_10_28 : am_do xs 10 28 l st M = am_nx 30 l (.int 20 :: st) M := rfl
theorem xi_10_30 : am_do xs 10 30 l st M = am_i1 st fun n r => if n < 0 ∨ 100000 < n.toNatClampNeg then none else am_nx 32 l (.ref M.1 :: r) (am_new M n.toNatClampNeg (am_na 0 n.toNatClampNeg)) := rfl
theorem xi_10_32 : am_do xs 10 32 l st M = am_put st 1 4 4 35 l M := rfl
theorem xi_10_35 : am_do xs 10 35 l st M = am_rtv st := rfl
theorem xi_11_0 : am_do xs 11 0 l st M = am_lda (am_lg l 0) 1 l st M := rfl
theorem xi_11_1 : am_do xs 11 1 l st M = am_a1 st fun o r => (am_gf (am_f M o) 1 2).bind fun w => am_nx 4 l (w :: r) M := rfl
theorem xi_11_4 : am_do xs 11 4 l st M = am_nx 6 l (.int 20 :: st) M := rfl
theorem xi_11_6 : am_do xs 11 6 l st M = am_i2 st fun x y r => am_nx (if y ≤ x then 39 else 9) l r M := rfl
theorem xi_11_9 : am_do xs 11 9 l st M = am_lda (am_lg l 0) 10 l st M := rfl
theorem xi_11_10 : am_do xs 11 10 l st M = am_a1 st fun o r => (am_gf (am_f M o) 1 3).bind fun w => am_nx 13 l (w :: r) M := rfl
theorem xi_11_13 : am_do xs 11 13 l st M = am_lda (am_lg l 0) 14 l st M := rfl
theorem xi_11_14 : am_do xs 11 14 l st M = am_a1 st fun o r => (am_gf (am_f M o) 1 2).bind fun w => am_nx 17 l (w :: r) M := rfl
theorem xi_11_17 : am_do xs 11 17 l st M = am_ldi (am_lg l 1) 18 l st M := rfl
theorem xi_11_18 : am_do xs 11 18 l st M = am_via st fun w i o r => (am_wi (am_f M o) 0 i w).bind fun e => am_nx 19 l r (am_set M o e) := rfl
theorem xi_11_19 : am_do xs 11 19 l st M = am_lda (am_lg l 0) 20 l st M := rfl
theorem xi_11_20 : am_do xs 11 20 l st M = am_a1 st fun o r => (am_gf (am_f M o) 1 4).bind fun w => am_nx 23 l (w :: r) M := rfl
theorem xi_11_23 : am_do xs 11 23 l st M = am_lda (am_lg l 0) 24 l st M := rfl
theorem xi_11_24 : am_do xs 11 24 l st M = am_a1 st fun o r => (am_gf (am_f M o) 1 2).bind fun w => am_nx 27 l (w :: r) M := rfl
theorem xi_11_27 : am_do xs 11 27 l st M = am_ldi (am_lg l 2) 28 l st M := rfl
theorem xi_11_28 : am_do xs 11 28 l st M = am_via st fun w i o r => (am_wi (am_f M o) 0 i w).bind fun e => am_nx 29 l r (am_set M o e) := rfl
theorem xi_11_29 : am_do xs 11 29 l st M = am_lda (am_lg l 0) 30 l st M := rfl
theorem xi_11_30 : am_do xs 11 30 l st M = am_dup st 31 l M := rfl
theorem xi_11_31 : am_do xs 11 31 l st M = am_a1 st fun o r => (am_gf (am_f M o) 1 2).bind fun w => am_nx 34 l (w :: r) M := rfl
theorem xi_11_34 : am_do xs 11 34 l st M = am_nx 35 l (.int 1 :: st) M := rfl
theorem xi_11_35 : am_do xs 11 35 l st M = am_i2 st fun x y r => am_nx 36 l (.int (x + y) :: r) M := rfl
theorem xi_11_36 : am_do xs 11 36 l st M = am_put st 1 2 0 39 l M := rfl
theorem xi_11_39 : am_do xs 11 39 l st M = am_rtv st := rfl
theorem xi_12_0 : am_do xs 12 0 l st M = am_lda (am_lg l 0) 1 l st M := rfl
theorem xi_12_1 : am_do xs 12 1 l st M = am_lda (am_lg l 1) 2 l st M := rfl
theorem xi_12_2 : am_do xs 12 2 l st M = am_a1 st fun o r => (am_gf (am_f M o) 1 0).bind fun w => am_nx 5 l (w :: r) M := rfl
theorem xi_12_5 : am_do xs 12 5 l st M = am_put st 1 0 1 8 l M := rfl
theorem xi_12_8 : am_do xs 12 8 l st M = am_lda (am_lg l 0) 9 l st M := rfl
theorem xi_12_9 : am_do xs 12 9 l st M = am_lda (am_lg l 1) 10 l st M := rfl
theorem xi_12_10 : am_do xs 12 10 l st M = am_a1 st fun o r => (am_gf (am_f M o) 1 1).bind fun w => am_nx 13 l (w :: r) M := rfl
theorem xi_12_13 : am_do xs 12 13 l st M = am_put st 1 1 0 16 l M := rfl
theorem xi_12_16 : am_do xs 12 16 l st M = am_lda (am_lg l 0) 17 l st M := rfl
theorem xi_12_17 : am_do xs 12 17 l st M = am_lda (am_lg l 1) 18 l st M := rfl
theorem xi_12_18 : am_do xs 12 18 l st M = am_a1 st fun o r => (am_gf (am_f M o) 1 2).bind fun w => am_nx 21 l (w :: r) M := rfl
theorem xi_12_21 : am_do xs 12 21 l st M = am_put st 1 2 0 24 l M := rfl
theorem xi_12_24 : am_do xs 12 24 l st M = am_lda (am_lg l 1) 25 l st M := rfl
theorem xi_12_25 : am_do xs 12 25 l st M = am_a1 st fun o r => (am_gf (am_f M o) 1 3).bind fun w => am_nx 28 l (w :: r) M := rfl
theorem xi_12_28 : am_do xs 12 28 l st M = am_nx 29 l (.int 0 :: st) M := rfl
theorem xi_12_29 : am_do xs 12 29 l st M = am_lda (am_lg l 0) 30 l st M := rfl
theorem xi_12_30 : am_do xs 12 30 l st M = am_a1 st fun o r => (am_gf (am_f M o) 1 3).bind fun w => am_nx 33 l (w :: r) M := rfl
theorem xi_12_33 : am_do xs 12 33 l st M = am_nx 34 l (.int 0 :: st) M := rfl
theorem xi_12_34 : am_do xs 12 34 l st M = am_nx 36 l (.int 20 :: st) M := rfl
theorem xi_12_36 : am_do xs 12 36 l st M = am_cp 4 st 36 l M := rfl
theorem xi_12_39 : am_do xs 12 39 l st M = am_lda (am_lg l 1) 40 l st M := rfl
theorem xi_12_40 : am_do xs 12 40 l st M = am_a1 st fun o r => (am_gf (am_f M o) 1 4).bind fun w => am_nx 43 l (w :: r) M := rfl
theorem xi_12_43 : am_do xs 12 43 l st M = am_nx 44 l (.int 0 :: st) M := rfl
theorem xi_12_44 : am_do xs 12 44 l st M = am_lda (am_lg l 0) 45 l st M := rfl
theorem xi_12_45 : am_do xs 12 45 l st M = am_a1 st fun o r => (am_gf (am_f M o) 1 4).bind fun w => am_nx 48 l (w :: r) M := rfl
theorem xi_12_48 : am_do xs 12 48 l st M = am_nx 49 l (.int 0 :: st) M := rfl
theorem xi_12_49 : am_do xs 12 49 l st M = am_nx 51 l (.int 20 :: st) M := rfl
theorem xi_12_51 : am_do xs 12 51 l st M = am_cp 4 st 51 l M := rfl
theorem xi_12_54 : am_do xs 12 54 l st M = am_rtv st := rfl
theorem xi_13_0 : am_do xs 13 0 l st M = am_lda (am_lg l 0) 1 l st M := rfl
theorem xi_13_1 : am_do xs 13 1 l st M = am_a1 st fun o r => (am_gf (am_f M o) 1 2).bind fun w => am_nx 4 l (w :: r) M := rfl
theorem xi_13_4 : am_do xs 13 4 l st M = am_i1 st fun x r => am_nx (if x ≤ 0 then 16 else 7) l r M := rfl
theorem xi_13_7 : am_do xs 13 7 l st M = am_lda (am_lg l 0) 8 l st M := rfl
theorem xi_13_8 : am_do xs 13 8 l st M = am_a1 st fun o r => (am_gf (am_f M o) 1 4).bind fun w => am_nx 11 l (w :: r) M := rfl
theorem xi_13_11 : am_do xs 13 11 l st M = am_nx 12 l (.int 0 :: st) M := rfl
theorem xi_13_12 : am_do xs 13 12 l st M = am_ial xs st 13 l M := rfl
theorem xi_13_13 : am_do xs 13 13 l st M = am_nx 17 l st M := rfl
theorem xi_13_16 : am_do xs 13 16 l st M = am_nx 17 l (.int 0 :: st) M := rfl
theorem xi_13_17 : am_do xs 13 17 l st M = am_i1 st fun x r => am_nx 18 (am_s1 l 1 (.int x)) r M := rfl
theorem xi_13_18 : am_do xs 13 18 l st M = am_lda (am_lg l 0) 19 l st M := rfl
theorem xi_13_19 : am_do xs 13 19 l st M = am_dup st 20 l M := rfl
theorem xi_13_20 : am_do xs 13 20 l st M = am_a1 st fun o r => (am_gf (am_f M o) 1 0).bind fun w => am_nx 23 l (w :: r) M := rfl
theorem xi_13_23 : am_do xs 13 23 l st M = am_lda (am_lg l 0) 24 l st M := rfl
theorem xi_13_24 : am_do xs 13 24 l st M = am_a1 st fun o r => (am_gf (am_f M o) 1 1).bind fun w => am_nx 27 l (w :: r) M := rfl
theorem xi_13_27 : am_do xs 13 27 l st M = am_ldi (am_lg l 1) 28 l st M := rfl
theorem xi_13_28 : am_do xs 13 28 l st M = am_nx 29 l (.int 2 :: st) M := rfl
theorem xi_13_29 : am_do xs 13 29 l st M = am_inv 0 2 (.retAddr 100) st M := rfl
theorem xt_13_29 : am_to 13 29 = 0 := rfl
theorem xi_13_32 : am_do xs 13 32 l st M = am_i2 st fun x y r => am_nx 33 l (.int (x + y) :: r) M := rfl
theorem xi_13_33 : am_do xs 13 33 l st M = am_i1 st fun x r => am_nx 34 l (.long x.toInt64 :: r) M := rfl
theorem xi_13_34 : am_do xs 13 34 l st M = am_j2 st fun x y r => am_nx 35 l (.long (x + y) :: r) M := rfl
theorem xi_13_35 : am_do xs 13 35 l st M = am_put st 1 0 1 38 l M := rfl
theorem xi_13_38 : am_do xs 13 38 l st M = am_lda (am_lg l 0) 39 l st M := rfl
theorem xi_13_39 : am_do xs 13 39 l st M = am_nx 41 l (.int (-10000000) :: st) M := rfl
theorem xi_13_41 : am_do xs 13 41 l st M = am_nx 43 l (.int 10000000 :: st) M := rfl
theorem xi_13_43 : am_do xs 13 43 l st M = am_lda (am_lg l 0) 44 l st M := rfl
theorem xi_13_44 : am_do xs 13 44 l st M = am_a1 st fun o r => (am_gf (am_f M o) 1 1).bind fun w => am_nx 47 l (w :: r) M := rfl
theorem xi_13_47 : am_do xs 13 47 l st M = am_ldi (am_lg l 1) 48 l st M := rfl
theorem xi_13_48 : am_do xs 13 48 l st M = am_i2 st fun x y r => am_nx 49 l (.int (x + y) :: r) M := rfl
theorem xi_13_49 : am_do xs 13 49 l st M = am_inv 0 2 (.retAddr 100) st M := rfl
theorem xt_13_49 : am_to 13 49 = 4 := rfl
theorem xi_13_52 : am_do xs 13 52 l st M = am_inv 0 2 (.retAddr 100) st M := rfl
theorem xt_13_52 : am_to 13 52 = 3 := rfl
theorem xi_13_55 : am_do xs 13 55 l st M = am_put st 1 1 0 58 l M := rfl
theorem xi_13_58 : am_do xs 13 58 l st M = am_lda (am_lg l 0) 59 l st M := rfl
theorem xi_13_59 : am_do xs 13 59 l st M = am_a1 st fun o r => (am_gf (am_f M o) 1 2).bind fun w => am_nx 62 l (w :: r) M := rfl
theorem xi_13_62 : am_do xs 13 62 l st M = am_i1 st fun x r => am_nx (if x ≤ 0 then 88 else 65) l r M := rfl
theorem xi_13_65 : am_do xs 13 65 l st M = am_lda (am_lg l 0) 66 l st M := rfl
theorem xi_13_66 : am_do xs 13 66 l st M = am_a1 st fun o r => (am_gf (am_f M o) 1 3).bind fun w => am_nx 69 l (w :: r) M := rfl
theorem xi_13_69 : am_do xs 13 69 l st M = am_nx 70 l (.int 0 :: st) M := rfl
theorem xi_13_70 : am_do xs 13 70 l st M = am_dup2 st 71 l M := rfl
theorem xi_13_71 : am_do xs 13 71 l st M = am_ial xs st 72 l M := rfl
theorem xi_13_72 : am_do xs 13 72 l st M = am_nx 73 l (.int 1 :: st) M := rfl
theorem xi_13_73 : am_do xs 13 73 l st M = am_i2 st fun x y r => am_nx 74 l (.int (x - y) :: r) M := rfl
theorem xi_13_74 : am_do xs 13 74 l st M = am_via st fun w i o r => (am_wi (am_f M o) 0 i w).bind fun e => am_nx 75 l r (am_set M o e) := rfl
theorem xi_13_75 : am_do xs 13 75 l st M = am_lda (am_lg l 0) 76 l st M := rfl
theorem xi_13_76 : am_do xs 13 76 l st M = am_a1 st fun o r => (am_gf (am_f M o) 1 3).bind fun w => am_nx 79 l (w :: r) M := rfl
theorem xi_13_79 : am_do xs 13 79 l st M = am_nx 80 l (.int 0 :: st) M := rfl
theorem xi_13_80 : am_do xs 13 80 l st M = am_ial xs st 81 l M := rfl
theorem xi_13_81 : am_do xs 13 81 l st M = am_i1 st fun x r => am_nx (if ¬ x = 0 then 88 else 84) l r M := rfl
theorem xi_13_84 : am_do xs 13 84 l st M = am_lda (am_lg l 0) 85 l st M := rfl
theorem xi_13_85 : am_do xs 13 85 l st M = am_inv 1 1 (.retAddr 1) st M := rfl
theorem xt_13_85 : am_to 13 85 = 14 := rfl
theorem xi_13_88 : am_do xs 13 88 l st M = am_rtv st := rfl
theorem xi_14_0 : am_do xs 14 0 l st M = am_nx 1 l (.int 1 :: st) M := rfl
theorem xi_14_1 : am_do xs 14 1 l st M = am_i1 st fun x r => am_nx 2 (am_s1 l 1 (.int x)) r M := rfl
theorem xi_14_2 : am_do xs 14 2 l st M = am_ldi (am_lg l 1) 3 l st M := rfl
theorem xi_14_3 : am_do xs 14 3 l st M = am_lda (am_lg l 0) 4 l st M := rfl
theorem xi_14_4 : am_do xs 14 4 l st M = am_a1 st fun o r => (am_gf (am_f M o) 1 2).bind fun w => am_nx 7 l (w :: r) M := rfl
theorem xi_14_7 : am_do xs 14 7 l st M = am_i2 st fun x y r => am_nx (if y ≤ x then 44 else 10) l r M := rfl
theorem xi_14_10 : am_do xs 14 10 l st M = am_lda (am_lg l 0) 11 l st M := rfl
theorem xi_14_11 : am_do xs 14 11 l st M = am_a1 st fun o r => (am_gf (am_f M o) 1 3).bind fun w => am_nx 14 l (w :: r) M := rfl
theorem xi_14_14 : am_do xs 14 14 l st M = am_ldi (am_lg l 1) 15 l st M := rfl
theorem xi_14_15 : am_do xs 14 15 l st M = am_nx 16 l (.int 1 :: st) M := rfl
theorem xi_14_16 : am_do xs 14 16 l st M = am_i2 st fun x y r => am_nx 17 l (.int (x - y) :: r) M := rfl
theorem xi_14_17 : am_do xs 14 17 l st M = am_lda (am_lg l 0) 18 l st M := rfl
theorem xi_14_18 : am_do xs 14 18 l st M = am_a1 st fun o r => (am_gf (am_f M o) 1 3).bind fun w => am_nx 21 l (w :: r) M := rfl
theorem xi_14_21 : am_do xs 14 21 l st M = am_ldi (am_lg l 1) 22 l st M := rfl
theorem xi_14_22 : am_do xs 14 22 l st M = am_ial xs st 23 l M := rfl
theorem xi_14_23 : am_do xs 14 23 l st M = am_via st fun w i o r => (am_wi (am_f M o) 0 i w).bind fun e => am_nx 24 l r (am_set M o e) := rfl
theorem xi_14_24 : am_do xs 14 24 l st M = am_lda (am_lg l 0) 25 l st M := rfl
theorem xi_14_25 : am_do xs 14 25 l st M = am_a1 st fun o r => (am_gf (am_f M o) 1 4).bind fun w => am_nx 28 l (w :: r) M := rfl
theorem xi_14_28 : am_do xs 14 28 l st M = am_ldi (am_lg l 1) 29 l st M := rfl
theorem xi_14_29 : am_do xs 14 29 l st M = am_nx 30 l (.int 1 :: st) M := rfl
theorem xi_14_30 : am_do xs 14 30 l st M = am_i2 st fun x y r => am_nx 31 l (.int (x - y) :: r) M := rfl
theorem xi_14_31 : am_do xs 14 31 l st M = am_lda (am_lg l 0) 32 l st M := rfl
theorem xi_14_32 : am_do xs 14 32 l st M = am_a1 st fun o r => (am_gf (am_f M o) 1 4).bind fun w => am_nx 35 l (w :: r) M := rfl
theorem xi_14_35 : am_do xs 14 35 l st M = am_ldi (am_lg l 1) 36 l st M := rfl
theorem xi_14_36 : am_do xs 14 36 l st M = am_ial xs st 37 l M := rfl
theorem xi_14_37 : am_do xs 14 37 l st M = am_via st fun w i o r => (am_wi (am_f M o) 0 i w).bind fun e => am_nx 38 l r (am_set M o e) := rfl
theorem xi_14_38 : am_do xs 14 38 l st M = am_inc (am_lg l 1) 1 1 41 l st M := rfl
theorem xi_14_41 : am_do xs 14 41 l st M = am_nx 2 l st M := rfl
theorem xi_14_44 : am_do xs 14 44 l st M = am_lda (am_lg l 0) 45 l st M := rfl
theorem xi_14_45 : am_do xs 14 45 l st M = am_dup st 46 l M := rfl
theorem xi_14_46 : am_do xs 14 46 l st M = am_a1 st fun o r => (am_gf (am_f M o) 1 2).bind fun w => am_nx 49 l (w :: r) M := rfl
theorem xi_14_49 : am_do xs 14 49 l st M = am_nx 50 l (.int 1 :: st) M := rfl
theorem xi_14_50 : am_do xs 14 50 l st M = am_i2 st fun x y r => am_nx 51 l (.int (x - y) :: r) M := rfl
theorem xi_14_51 : am_do xs 14 51 l st M = am_put st 1 2 0 54 l M := rfl
theorem xi_14_54 : am_do xs 14 54 l st M = am_rtv st := rfl
theorem xi_15_0 : am_do xs 15 0 l st M = am_lda (am_lg l 0) 1 l st M := rfl
theorem xi_15_1 : am_do xs 15 1 l st M = am_a1 st fun _ r => if 8 < am_wt r then none else am_nx 4 l r M := rfl
theorem xi_15_4 : am_do xs 15 4 l st M = am_lda (am_lg l 0) 5 l st M := rfl
theorem xi_15_5 : am_do xs 15 5 l st M = am_nx 6 l (.int 0 :: st) M := rfl
theorem xi_15_6 : am_do xs 15 6 l st M = am_put st 2 0 0 9 l M := rfl
theorem xi_15_9 : am_do xs 15 9 l st M = am_lda (am_lg l 0) 10 l st M := rfl
theorem xi_15_10 : am_do xs 15 10 l st M = am_nx 11 l (.int 0 :: st) M := rfl
theorem xi_15_11 : am_do xs 15 11 l st M = am_put st 2 1 0 14 l M := rfl
theorem xi_15_14 : am_do xs 15 14 l st M = am_rtv st := rfl
theorem xi_16_0 : am_do xs 16 0 l st M = am_lda (am_lg l 0) 1 l st M := rfl
theorem xi_16_1 : am_do xs 16 1 l st M = am_a1 st fun o r => (am_gf (am_f M o) 2 1).bind fun w => am_nx 4 l (w :: r) M := rfl
theorem xi_16_4 : am_do xs 16 4 l st M = am_i1 st fun x r => am_nx (if 0 < x then 9 else 7) l r M := rfl
theorem xi_16_7 : am_do xs 16 7 l st M = am_nx 8 l (.int 0 :: st) M := rfl
theorem xi_16_8 : am_do xs 16 8 l st M = am_rti st 0 := rfl
theorem xi_16_9 : am_do xs 16 9 l st M = am_lda (am_lg l 0) 10 l st M := rfl
theorem xi_16_10 : am_do xs 16 10 l st M = am_lda (am_lg l 0) 11 l st M := rfl
theorem xi_16_11 : am_do xs 16 11 l st M = am_a1 st fun o r => (am_gf (am_f M o) 2 0).bind fun w => am_nx 14 l (w :: r) M := rfl
theorem xi_16_14 : am_do xs 16 14 l st M = am_nx 16 l (.int 1103515245 :: st) M := rfl
theorem xi_16_16 : am_do xs 16 16 l st M = am_i2 st fun x y r => am_nx 17 l (.int (x * y) :: r) M := rfl
theorem xi_16_17 : am_do xs 16 17 l st M = am_nx 20 l (.int 12345 :: st) M := rfl
theorem xi_16_20 : am_do xs 16 20 l st M = am_i2 st fun x y r => am_nx 21 l (.int (x + y) :: r) M := rfl
theorem xi_16_21 : am_do xs 16 21 l st M = am_put st 2 0 0 24 l M := rfl
theorem xi_16_24 : am_do xs 16 24 l st M = am_lda (am_lg l 0) 25 l st M := rfl
theorem xi_16_25 : am_do xs 16 25 l st M = am_a1 st fun o r => (am_gf (am_f M o) 2 0).bind fun w => am_nx 28 l (w :: r) M := rfl
theorem xi_16_28 : am_do xs 16 28 l st M = am_nx 30 l (.int 16 :: st) M := rfl
theorem xi_16_30 : am_do xs 16 30 l st M = am_i2 st fun x y r => am_nx 31 l (.int ((x.toUInt32 >>> (y.toUInt32 &&& Int32.toUInt32 31)).toInt32) :: r) M := rfl
theorem xi_16_31 : am_do xs 16 31 l st M = am_nx 32 l (.int 2 :: st) M := rfl
theorem xi_16_32 : am_do xs 16 32 l st M = am_lda (am_lg l 0) 33 l st M := rfl
theorem xi_16_33 : am_do xs 16 33 l st M = am_a1 st fun o r => (am_gf (am_f M o) 2 1).bind fun w => am_nx 36 l (w :: r) M := rfl
theorem xi_16_36 : am_do xs 16 36 l st M = am_i2 st fun x y r => am_nx 37 l (.int (x * y) :: r) M := rfl
theorem xi_16_37 : am_do xs 16 37 l st M = am_nx 38 l (.int 1 :: st) M := rfl
theorem xi_16_38 : am_do xs 16 38 l st M = am_i2 st fun x y r => am_nx 39 l (.int (x + y) :: r) M := rfl
theorem xi_16_39 : am_do xs 16 39 l st M = am_i2 st fun x y r => if y = 0 then none else am_nx 40 l (.int (x - x / y * y) :: r) M := rfl
theorem xi_16_40 : am_do xs 16 40 l st M = am_lda (am_lg l 0) 41 l st M := rfl
theorem xi_16_41 : am_do xs 16 41 l st M = am_a1 st fun o r => (am_gf (am_f M o) 2 1).bind fun w => am_nx 44 l (w :: r) M := rfl
theorem xi_16_44 : am_do xs 16 44 l st M = am_i2 st fun x y r => am_nx 45 l (.int (x - y) :: r) M := rfl
theorem xi_16_45 : am_do xs 16 45 l st M = am_rti st 0 := rfl
theorem xi_17_0 : am_do xs 17 0 l st M = am_lda (am_lg l 0) 1 l st M := rfl
theorem xi_17_1 : am_do xs 17 1 l st M = am_a1 st fun _ r => if 8 < am_wt r then none else am_nx 4 l r M := rfl
theorem xi_17_4 : am_do xs 17 4 l st M = am_lda (am_lg l 0) 5 l st M := rfl
theorem xi_17_5 : am_do xs 17 5 l st M = am_nx 6 l (.null :: st) M := rfl
theorem xi_17_6 : am_do xs 17 6 l st M = am_put st 3 7 4 9 l M := rfl
theorem xi_17_9 : am_do xs 17 9 l st M = am_lda (am_lg l 0) 10 l st M := rfl
theorem xi_17_10 : am_do xs 17 10 l st M = am_lda (am_lg l 1) 11 l st M := rfl
theorem xi_17_11 : am_do xs 17 11 l st M = am_put st 3 0 4 14 l M := rfl
theorem xi_17_14 : am_do xs 17 14 l st M = am_lda (am_lg l 0) 15 l st M := rfl
theorem xi_17_15 : am_do xs 17 15 l st M = am_ldi (am_lg l 2) 16 l st M := rfl
theorem xi_17_16 : am_do xs 17 16 l st M = am_put st 3 1 0 19 l M := rfl
theorem xi_17_19 : am_do xs 17 19 l st M = am_lda (am_lg l 0) 20 l st M := rfl
theorem xi_17_20 : am_do xs 17 20 l st M = am_ldj (am_lg l 3) 21 l st M := rfl
theorem xi_17_21 : am_do xs 17 21 l st M = am_put st 3 3 1 24 l M := rfl
theorem xi_17_24 : am_do xs 17 24 l st M = am_lda (am_lg l 0) 25 l st M := rfl
theorem xi_17_25 : am_do xs 17 25 l st M = am_lda (am_lg l 1) 26 l st M := rfl
theorem xi_17_26 : am_do xs 17 26 l st M = am_a1 st fun o r => (am_gf (am_f M o) 4 9).bind fun w => am_nx 29 l (w :: r) M := rfl
theorem xi_17_29 : am_do xs 17 29 l st M = am_put st 3 2 0 32 l M := rfl
theorem xi_17_32 : am_do xs 17 32 l st M = am_lda (am_lg l 0) 33 l st M := rfl
theorem xi_17_33 : am_do xs 17 33 l st M = am_lda (am_lg l 1) 34 l st M := rfl
theorem xi_17_34 : am_do xs 17 34 l st M = am_a1 st fun o r => (am_gf (am_f M o) 4 8).bind fun w => am_nx 37 l (w :: r) M := rfl
theorem xi_17_37 : am_do xs 17 37 l st M = am_put st 3 6 4 40 l M := rfl
theorem xi_17_40 : am_do xs 17 40 l st M = am_lda (am_lg l 0) 41 l st M := rfl
theorem xi_17_41 : am_do xs 17 41 l st M = am_lda (am_lg l 0) 42 l st M := rfl
theorem xi_17_42 : am_do xs 17 42 l st M = am_a1 st fun o r => (am_gf (am_f M o) 3 6).bind fun w => am_nx 45 l (w :: r) M := rfl
theorem xi_17_45 : am_do xs 17 45 l st M = am_nul st 48 52 l M := rfl
theorem xi_17_48 : am_do xs 17 48 l st M = am_nx 49 l (.long 0 :: st) M := rfl
theorem xi_17_49 : am_do xs 17 49 l st M = am_nx 67 l st M := rfl
theorem xi_17_52 : am_do xs 17 52 l st M = am_ldj (am_lg l 3) 53 l st M := rfl
theorem xi_17_53 : am_do xs 17 53 l st M = am_lda (am_lg l 0) 54 l st M := rfl
theorem xi_17_54 : am_do xs 17 54 l st M = am_a1 st fun o r => (am_gf (am_f M o) 3 6).bind fun w => am_nx 57 l (w :: r) M := rfl
theorem xi_17_57 : am_do xs 17 57 l st M = am_a1 st fun o r => (am_gf (am_f M o) 3 3).bind fun w => am_nx 60 l (w :: r) M := rfl
theorem xi_17_60 : am_do xs 17 60 l st M = am_j2 st fun x y r => am_nx 61 l (.long (x - y) :: r) M := rfl
theorem xi_17_61 : am_do xs 17 61 l st M = am_lda (am_lg l 1) 62 l st M := rfl
theorem xi_17_62 : am_do xs 17 62 l st M = am_a1 st fun o r => (am_gf (am_f M o) 4 4).bind fun w => am_nx 65 l (w :: r) M := rfl
theorem xi_17_65 : am_do xs 17 65 l st M = am_i1 st fun x r => am_nx 66 l (.long x.toInt64 :: r) M := rfl
theorem xi_17_66 : am_do xs 17 66 l st M = am_j2 st fun x y r => am_nx 67 l (.long (x * y) :: r) M := rfl
theorem xi_17_67 : am_do xs 17 67 l st M = am_put st 3 4 1 70 l M := rfl
theorem xi_17_70 : am_do xs 17 70 l st M = am_lda (am_lg l 0) 71 l st M := rfl
theorem xi_17_71 : am_do xs 17 71 l st M = am_nx 74 l (.ref M.1 :: st) (am_new M (am_nf 5).length (.inr (5, am_nf 5))) := rfl
theorem xi_17_74 : am_do xs 17 74 l st M = am_dup st 75 l M := rfl
theorem xi_17_75 : am_do xs 17 75 l st M = am_lda (am_lg l 1) 76 l st M := rfl
theorem xi_17_76 : am_do xs 17 76 l st M = am_a1 st fun o r => (am_gf (am_f M o) 4 2).bind fun w => am_nx 79 l (w :: r) M := rfl
theorem xi_17_79 : am_do xs 17 79 l st M = am_inv 2 2 (.retAddr 5) st M := rfl
theorem xt_17_79 : am_to 17 79 = 21 := rfl
theorem xi_17_82 : am_do xs 17 82 l st M = am_put st 3 5 4 85 l M := rfl
theorem xi_17_85 : am_do xs 17 85 l st M = am_rtv st := rfl
theorem xi_18_0 : am_do xs 18 0 l st M = am_lda (am_lg l 0) 1 l st M := rfl
theorem xi_18_1 : am_do xs 18 1 l st M = am_a1 st fun _ r => if 8 < am_wt r then none else am_nx 4 l r M := rfl
theorem xi_18_4 : am_do xs 18 4 l st M = am_lda (am_lg l 0) 5 l st M := rfl
theorem xi_18_5 : am_do xs 18 5 l st M = am_nx 6 l (.long 0 :: st) M := rfl
theorem xi_18_6 : am_do xs 18 6 l st M = am_put st 4 5 1 9 l M := rfl
theorem xi_18_9 : am_do xs 18 9 l st M = am_lda (am_lg l 0) 10 l st M := rfl
theorem xi_18_10 : am_do xs 18 10 l st M = am_nx 11 l (.long 0 :: st) M := rfl
theorem xi_18_11 : am_do xs 18 11 l st M = am_put st 4 6 1 14 l M := rfl
theorem xi_18_14 : am_do xs 18 14 l st M = am_lda (am_lg l 0) 15 l st M := rfl
theorem xi_18_15 : am_do xs 18 15 l st M = am_nx 16 l (.null :: st) M := rfl
theorem xi_18_16 : am_do xs 18 16 l st M = am_put st 4 7 4 19 l M := rfl
theorem xi_18_19 : am_do xs 18 19 l st M = am_lda (am_lg l 0) 20 l st M := rfl
theorem xi_18_20 : am_do xs 18 20 l st M = am_nx 21 l (.null :: st) M := rfl
theorem xi_18_21 : am_do xs 18 21 l st M = am_put st 4 8 4 24 l M := rfl
theorem xi_18_24 : am_do xs 18 24 l st M = am_lda (am_lg l 0) 25 l st M := rfl
theorem xi_18_25 : am_do xs 18 25 l st M = am_nx 26 l (.int 0 :: st) M := rfl
theorem xi_18_26 : am_do xs 18 26 l st M = am_put st 4 9 0 29 l M := rfl
theorem xi_18_29 : am_do xs 18 29 l st M = am_lda (am_lg l 0) 30 l st M := rfl
theorem xi_18_30 : am_do xs 18 30 l st M = am_nx 31 l (.long 0 :: st) M := rfl
theorem xi_18_31 : am_do xs 18 31 l st M = am_put st 4 10 1 34 l M := rfl
theorem xi_18_34 : am_do xs 18 34 l st M = am_lda (am_lg l 0) 35 l st M := rfl
theorem xi_18_35 : am_do xs 18 35 l st M = am_nx 36 l (.int 0 :: st) M := rfl
theorem xi_18_36 : am_do xs 18 36 l st M = am_put st 4 11 2 39 l M := rfl
theorem xi_18_39 : am_do xs 18 39 l st M = am_lda (am_lg l 0) 40 l st M := rfl
theorem xi_18_40 : am_do xs 18 40 l st M = am_ldi (am_lg l 1) 41 l st M := rfl
theorem xi_18_41 : am_do xs 18 41 l st M = am_put st 4 0 0 44 l M := rfl
theorem xi_18_44 : am_do xs 18 44 l st M = am_lda (am_lg l 0) 45 l st M := rfl
theorem xi_18_45 : am_do xs 18 45 l st M = am_lda (am_lg l 2) 46 l st M := rfl
theorem xi_18_46 : am_do xs 18 46 l st M = am_put st 4 1 4 49 l M := rfl
theorem xi_18_49 : am_do xs 18 49 l st M = am_lda (am_lg l 0) 50 l st M := rfl
theorem xi_18_50 : am_do xs 18 50 l st M = am_lda (am_lg l 3) 51 l st M := rfl
theorem xi_18_51 : am_do xs 18 51 l st M = am_put st 4 2 4 54 l M := rfl
theorem xi_18_54 : am_do xs 18 54 l st M = am_lda (am_lg l 0) 55 l st M := rfl
theorem xi_18_55 : am_do xs 18 55 l st M = am_lda (am_lg l 3) 56 l st M := rfl
theorem xi_18_56 : am_do xs 18 56 l st M = am_aln xs st 57 l M := rfl
theorem xi_18_57 : am_do xs 18 57 l st M = am_i1 st fun x r => am_nx (if ¬ x = 0 then 64 else 60) l r M := rfl
theorem xi_18_60 : am_do xs 18 60 l st M = am_nx 61 l (.long 0 :: st) M := rfl
theorem xi_18_61 : am_do xs 18 61 l st M = am_nx 67 l st M := rfl
theorem xi_18_64 : am_do xs 18 64 l st M = am_lda (am_lg l 3) 65 l st M := rfl
theorem xi_18_65 : am_do xs 18 65 l st M = am_nx 66 l (.int 0 :: st) M := rfl
theorem xi_18_66 : am_do xs 18 66 l st M = am_ia st fun i o r => (am_aj (am_f M o) i).bind fun x => am_nx 67 l (.long x :: r) M := rfl
theorem xi_18_67 : am_do xs 18 67 l st M = am_put st 4 3 1 70 l M := rfl
theorem xi_18_70 : am_do xs 18 70 l st M = am_lda (am_lg l 0) 71 l st M := rfl
theorem xi_18_71 : am_do xs 18 71 l st M = am_ldi (am_lg l 4) 73 l st M := rfl
theorem xi_18_73 : am_do xs 18 73 l st M = am_put st 4 4 0 76 l M := rfl
theorem xi_18_76 : am_do xs 18 76 l st M = am_rtv st := rfl
theorem xi_19_0 : am_do xs 19 0 l st M = am_lda (am_lg l 0) 1 l st M := rfl
theorem xi_19_1 : am_do xs 19 1 l st M = am_a1 st fun o r => (am_gf (am_f M o) 4 8).bind fun w => am_nx 4 l (w :: r) M := rfl
theorem xi_19_4 : am_do xs 19 4 l st M = am_nul st 7 15 l M := rfl
theorem xi_19_7 : am_do xs 19 7 l st M = am_lda (am_lg l 0) 8 l st M := rfl
theorem xi_19_8 : am_do xs 19 8 l st M = am_lda (am_lg l 1) 9 l st M := rfl
theorem xi_19_9 : am_do xs 19 9 l st M = am_put st 4 7 4 12 l M := rfl
theorem xi_19_12 : am_do xs 19 12 l st M = am_nx 23 l st M := rfl
theorem xi_19_15 : am_do xs 19 15 l st M = am_lda (am_lg l 0) 16 l st M := rfl
theorem xi_19_16 : am_do xs 19 16 l st M = am_a1 st fun o r => (am_gf (am_f M o) 4 8).bind fun w => am_nx 19 l (w :: r) M := rfl
theorem xi_19_19 : am_do xs 19 19 l st M = am_lda (am_lg l 1) 20 l st M := rfl
theorem xi_19_20 : am_do xs 19 20 l st M = am_put st 3 7 4 23 l M := rfl
theorem xi_19_23 : am_do xs 19 23 l st M = am_lda (am_lg l 0) 24 l st M := rfl
theorem xi_19_24 : am_do xs 19 24 l st M = am_lda (am_lg l 1) 25 l st M := rfl
theorem xi_19_25 : am_do xs 19 25 l st M = am_put st 4 8 4 28 l M := rfl
theorem xi_19_28 : am_do xs 19 28 l st M = am_lda (am_lg l 0) 29 l st M := rfl
theorem xi_19_29 : am_do xs 19 29 l st M = am_dup st 30 l M := rfl
theorem xi_19_30 : am_do xs 19 30 l st M = am_a1 st fun o r => (am_gf (am_f M o) 4 9).bind fun w => am_nx 33 l (w :: r) M := rfl
theorem xi_19_33 : am_do xs 19 33 l st M = am_nx 34 l (.int 1 :: st) M := rfl
theorem xi_19_34 : am_do xs 19 34 l st M = am_i2 st fun x y r => am_nx 35 l (.int (x + y) :: r) M := rfl
theorem xi_19_35 : am_do xs 19 35 l st M = am_put st 4 9 0 38 l M := rfl
theorem xi_19_38 : am_do xs 19 38 l st M = am_rtv st := rfl
theorem xi_20_0 : am_do xs 20 0 l st M = am_lda (am_lg l 0) 1 l st M := rfl
theorem xi_20_1 : am_do xs 20 1 l st M = am_a1 st fun o r => (am_gf (am_f M o) 4 7).bind fun w => am_nx 4 l (w :: r) M := rfl
theorem xi_20_4 : am_do xs 20 4 l st M = am_nul st 35 7 l M := rfl
theorem xi_20_7 : am_do xs 20 7 l st M = am_lda (am_lg l 0) 8 l st M := rfl
theorem xi_20_8 : am_do xs 20 8 l st M = am_a1 st fun o r => (am_gf (am_f M o) 4 8).bind fun w => am_nx 11 l (w :: r) M := rfl
theorem xi_20_11 : am_do xs 20 11 l st M = am_nul st 35 14 l M := rfl
theorem xi_20_14 : am_do xs 20 14 l st M = am_lda (am_lg l 0) 15 l st M := rfl
theorem xi_20_15 : am_do xs 20 15 l st M = am_a1 st fun o r => (am_gf (am_f M o) 4 7).bind fun w => am_nx 18 l (w :: r) M := rfl
theorem xi_20_18 : am_do xs 20 18 l st M = am_a1 st fun o r => (am_gf (am_f M o) 3 1).bind fun w => am_nx 21 l (w :: r) M := rfl
theorem xi_20_21 : am_do xs 20 21 l st M = am_lda (am_lg l 0) 22 l st M := rfl
theorem xi_20_22 : am_do xs 20 22 l st M = am_a1 st fun o r => (am_gf (am_f M o) 4 8).bind fun w => am_nx 25 l (w :: r) M := rfl
theorem xi_20_25 : am_do xs 20 25 l st M = am_a1 st fun o r => (am_gf (am_f M o) 3 1).bind fun w => am_nx 28 l (w :: r) M := rfl
theorem xi_20_28 : am_do xs 20 28 l st M = am_i2 st fun x y r => am_nx (if x = y then 35 else 31) l r M := rfl
theorem xi_20_31 : am_do xs 20 31 l st M = am_nx 32 l (.int 1 :: st) M := rfl
theorem xi_20_32 : am_do xs 20 32 l st M = am_nx 36 l st M := rfl
theorem xi_20_35 : am_do xs 20 35 l st M = am_nx 36 l (.int 0 :: st) M := rfl
theorem xi_20_36 : am_do xs 20 36 l st M = am_rti st 2 := rfl
theorem xi_21_0 : am_do xs 21 0 l st M = am_lda (am_lg l 0) 1 l st M := rfl
theorem xi_21_1 : am_do xs 21 1 l st M = am_a1 st fun _ r => if 8 < am_wt r then none else am_nx 4 l r M := rfl
theorem xi_21_4 : am_do xs 21 4 l st M = am_lda (am_lg l 0) 5 l st M := rfl
theorem xi_21_5 : am_do xs 21 5 l st M = am_lda (am_lg l 1) 6 l st M := rfl
theorem xi_21_6 : am_do xs 21 6 l st M = am_put st 5 0 4 9 l M := rfl
theorem xi_21_9 : am_do xs 21 9 l st M = am_lda (am_lg l 0) 10 l st M := rfl
theorem xi_21_10 : am_do xs 21 10 l st M = am_lda (am_lg l 1) 11 l st M := rfl
theorem xi_21_11 : am_do xs 21 11 l st M = am_aln xs st 12 l M := rfl
theorem xi_21_12 : am_do xs 21 12 l st M = am_i1 st fun n r => if n < 0 ∨ 100000 < n.toNatClampNeg then none else am_nx 14 l (.ref M.1 :: r) (am_new M n.toNatClampNeg (am_na 0 n.toNatClampNeg)) := rfl
theorem xi_21_14 : am_do xs 21 14 l st M = am_put st 5 1 4 17 l M := rfl
theorem xi_21_17 : am_do xs 21 17 l st M = am_lda (am_lg l 0) 18 l st M := rfl
theorem xi_21_18 : am_do xs 21 18 l st M = am_lda (am_lg l 1) 19 l st M := rfl
theorem xi_21_19 : am_do xs 21 19 l st M = am_aln xs st 20 l M := rfl
theorem xi_21_20 : am_do xs 21 20 l st M = am_i1 st fun n r => if n < 0 ∨ 100000 < n.toNatClampNeg then none else am_nx 22 l (.ref M.1 :: r) (am_new M n.toNatClampNeg (am_na 1 n.toNatClampNeg)) := rfl
theorem xi_21_22 : am_do xs 21 22 l st M = am_put st 5 2 4 25 l M := rfl
theorem xi_21_25 : am_do xs 21 25 l st M = am_rtv st := rfl
theorem xi_22_0 : am_do xs 22 0 l st M = am_nx 1 l (.int 0 :: st) M := rfl
theorem xi_22_1 : am_do xs 22 1 l st M = am_i1 st fun x r => am_nx 3 (am_s1 l 4 (.int x)) r M := rfl
theorem xi_22_3 : am_do xs 22 3 l st M = am_ldi (am_lg l 4) 5 l st M := rfl
theorem xi_22_5 : am_do xs 22 5 l st M = am_lda (am_lg l 0) 6 l st M := rfl
theorem xi_22_6 : am_do xs 22 6 l st M = am_a1 st fun o r => (am_gf (am_f M o) 5 0).bind fun w => am_nx 9 l (w :: r) M := rfl
theorem xi_22_9 : am_do xs 22 9 l st M = am_aln xs st 10 l M := rfl
theorem xi_22_10 : am_do xs 22 10 l st M = am_i2 st fun x y r => am_nx (if y ≤ x then 130 else 13) l r M := rfl
theorem xi_22_13 : am_do xs 22 13 l st M = am_lda (am_lg l 0) 14 l st M := rfl
theorem xi_22_14 : am_do xs 22 14 l st M = am_a1 st fun o r => (am_gf (am_f M o) 5 0).bind fun w => am_nx 17 l (w :: r) M := rfl
theorem xi_22_17 : am_do xs 22 17 l st M = am_ldi (am_lg l 4) 19 l st M := rfl
theorem xi_22_19 : am_do xs 22 19 l st M = am_ia st fun i o r => (am_aj (am_f M o) i).bind fun x => am_nx 20 l (.long x :: r) M := rfl
theorem xi_22_20 : am_do xs 22 20 l st M = am_j1 st fun x r => am_nx 22 (am_s2 l 5 (.long x)) r M := rfl
theorem xi_22_22 : am_do xs 22 22 l st M = am_ldj (am_lg l 1) 23 l st M := rfl
theorem xi_22_23 : am_do xs 22 23 l st M = am_lda (am_lg l 3) 24 l st M := rfl
theorem xi_22_24 : am_do xs 22 24 l st M = am_inv 1 1 (.retAddr 2) st M := rfl
theorem xt_22_24 : am_to 22 24 = 16 := rfl
theorem xi_22_27 : am_do xs 22 27 l st M = am_i1 st fun x r => am_nx 28 l (.long x.toInt64 :: r) M := rfl
theorem xi_22_28 : am_do xs 22 28 l st M = am_j2 st fun x y r => am_nx 29 l (.long (x + y) :: r) M := rfl
theorem xi_22_29 : am_do xs 22 29 l st M = am_j1 st fun x r => am_nx 31 (am_s2 l 7 (.long x)) r M := rfl
theorem xi_22_31 : am_do xs 22 31 l st M = am_ldj (am_lg l 7) 33 l st M := rfl
theorem xi_22_33 : am_do xs 22 33 l st M = am_ldj (am_lg l 5) 35 l st M := rfl
theorem xi_22_35 : am_do xs 22 35 l st M = am_ldj (am_lg l 7) 37 l st M := rfl
theorem xi_22_37 : am_do xs 22 37 l st M = am_ldj (am_lg l 5) 39 l st M := rfl
theorem xi_22_39 : am_do xs 22 39 l st M = am_inv 10 2 (.retAddr 7) st M := rfl
theorem xt_22_39 : am_to 22 39 = 88 := rfl
theorem xi_22_42 : am_do xs 22 42 l st M = am_j2 st fun x y r => am_nx 43 l (.long (x * y) :: r) M := rfl
theorem xi_22_43 : am_do xs 22 43 l st M = am_j2 st fun x y r => am_nx 44 l (.long (x - y) :: r) M := rfl
theorem xi_22_44 : am_do xs 22 44 l st M = am_j1 st fun x r => am_nx 46 (am_s2 l 9 (.long x)) r M := rfl
theorem xi_22_46 : am_do xs 22 46 l st M = am_lda (am_lg l 0) 47 l st M := rfl
theorem xi_22_47 : am_do xs 22 47 l st M = am_a1 st fun o r => (am_gf (am_f M o) 5 1).bind fun w => am_nx 50 l (w :: r) M := rfl
theorem xi_22_50 : am_do xs 22 50 l st M = am_ldi (am_lg l 4) 52 l st M := rfl
theorem xi_22_52 : am_do xs 22 52 l st M = am_ldj (am_lg l 9) 54 l st M := rfl
theorem xi_22_54 : am_do xs 22 54 l st M = am_nx 57 l (.long 1000 :: st) M := rfl
theorem xi_22_57 : am_do xs 22 57 l st M = am_j2 st fun x y r => am_nx 58 l (.long (x * y) :: r) M := rfl
theorem xi_22_58 : am_do xs 22 58 l st M = am_ldj (am_lg l 5) 60 l st M := rfl
theorem xi_22_60 : am_do xs 22 60 l st M = am_inv 10 2 (.retAddr 7) st M := rfl
theorem xt_22_60 : am_to 22 60 = 88 := rfl
theorem xi_22_63 : am_do xs 22 63 l st M = am_j1 st fun x r => am_nx 64 l (.int x.toInt32 :: r) M := rfl
theorem xi_22_64 : am_do xs 22 64 l st M = am_via st fun w i o r => (am_wi (am_f M o) 0 i w).bind fun e => am_nx 65 l r (am_set M o e) := rfl
theorem xi_22_65 : am_do xs 22 65 l st M = am_lda (am_lg l 0) 66 l st M := rfl
theorem xi_22_66 : am_do xs 22 66 l st M = am_a1 st fun o r => (am_gf (am_f M o) 5 1).bind fun w => am_nx 69 l (w :: r) M := rfl
theorem xi_22_69 : am_do xs 22 69 l st M = am_ldi (am_lg l 4) 71 l st M := rfl
theorem xi_22_71 : am_do xs 22 71 l st M = am_ial xs st 72 l M := rfl
theorem xi_22_72 : am_do xs 22 72 l st M = am_i1 st fun x r => am_nx 73 l (.long x.toInt64 :: r) M := rfl
theorem xi_22_73 : am_do xs 22 73 l st M = am_ldj (am_lg l 5) 75 l st M := rfl
theorem xi_22_75 : am_do xs 22 75 l st M = am_j2 st fun x y r => am_nx 76 l (.long (x * y) :: r) M := rfl
theorem xi_22_76 : am_do xs 22 76 l st M = am_nx 79 l (.long 1000 :: st) M := rfl
theorem xi_22_79 : am_do xs 22 79 l st M = am_inv 10 2 (.retAddr 7) st M := rfl
theorem xt_22_79 : am_to 22 79 = 88 := rfl
theorem xi_22_82 : am_do xs 22 82 l st M = am_j1 st fun x r => am_nx 84 (am_s2 l 11 (.long x)) r M := rfl
theorem xi_22_84 : am_do xs 22 84 l st M = am_lda (am_lg l 0) 85 l st M := rfl
theorem xi_22_85 : am_do xs 22 85 l st M = am_a1 st fun o r => (am_gf (am_f M o) 5 2).bind fun w => am_nx 88 l (w :: r) M := rfl
theorem xi_22_88 : am_do xs 22 88 l st M = am_ldi (am_lg l 4) 90 l st M := rfl
theorem xi_22_90 : am_do xs 22 90 l st M = am_ldi (am_lg l 4) 92 l st M := rfl
theorem xi_22_92 : am_do xs 22 92 l st M = am_i1 st fun x r => am_nx (if ¬ x = 0 then 100 else 95) l r M := rfl
theorem xi_22_95 : am_do xs 22 95 l st M = am_ldj (am_lg l 11) 97 l st M := rfl
theorem xi_22_97 : am_do xs 22 97 l st M = am_nx 123 l st M := rfl
theorem xi_22_100 : am_do xs 22 100 l st M = am_ldj (am_lg l 11) 102 l st M := rfl
theorem xi_22_102 : am_do xs 22 102 l st M = am_ldj (am_lg l 5) 104 l st M := rfl
theorem xi_22_104 : am_do xs 22 104 l st M = am_ldj (am_lg l 5) 106 l st M := rfl
theorem xi_22_106 : am_do xs 22 106 l st M = am_lda (am_lg l 0) 107 l st M := rfl
theorem xi_22_107 : am_do xs 22 107 l st M = am_a1 st fun o r => (am_gf (am_f M o) 5 2).bind fun w => am_nx 110 l (w :: r) M := rfl
theorem xi_22_110 : am_do xs 22 110 l st M = am_ldi (am_lg l 4) 112 l st M := rfl
theorem xi_22_112 : am_do xs 22 112 l st M = am_nx 113 l (.int 1 :: st) M := rfl
theorem xi_22_113 : am_do xs 22 113 l st M = am_i2 st fun x y r => am_nx 114 l (.int (x - y) :: r) M := rfl
theorem xi_22_114 : am_do xs 22 114 l st M = am_ia st fun i o r => (am_aj (am_f M o) i).bind fun x => am_nx 115 l (.long x :: r) M := rfl
theorem xi_22_115 : am_do xs 22 115 l st M = am_ldj (am_lg l 11) 117 l st M := rfl
theorem xi_22_117 : am_do xs 22 117 l st M = am_j2 st fun x y r => am_nx 118 l (.long (x - y) :: r) M := rfl
theorem xi_22_118 : am_do xs 22 118 l st M = am_inv 10 2 (.retAddr 7) st M := rfl
theorem xt_22_118 : am_to 22 118 = 89 := rfl
theorem xi_22_121 : am_do xs 22 121 l st M = am_j2 st fun x y r => am_nx 122 l (.long (x * y) :: r) M := rfl
theorem xi_22_122 : am_do xs 22 122 l st M = am_j2 st fun x y r => am_nx 123 l (.long (x + y) :: r) M := rfl
theorem xi_22_123 : am_do xs 22 123 l st M = am_via st fun w i o r => (am_wj (am_f M o) i w).bind fun e => am_nx 124 l r (am_set M o e) := rfl
theorem xi_22_124 : am_do xs 22 124 l st M = am_inc (am_lg l 4) 4 1 127 l st M := rfl
theorem xi_22_127 : am_do xs 22 127 l st M = am_nx 3 l st M := rfl
theorem xi_22_130 : am_do xs 22 130 l st M = am_rtv st := rfl
theorem xi_23_0 : am_do xs 23 0 l st M = am_lda (am_lg l 0) 1 l st M := rfl
theorem xi_23_1 : am_do xs 23 1 l st M = am_a1 st fun o r => (am_gf (am_f M o) 5 2).bind fun w => am_nx 4 l (w :: r) M := rfl
theorem xi_23_4 : am_do xs 23 4 l st M = am_aln xs st 5 l M := rfl
theorem xi_23_5 : am_do xs 23 5 l st M = am_i1 st fun x r => am_nx (if ¬ x = 0 then 12 else 8) l r M := rfl
theorem xi_23_8 : am_do xs 23 8 l st M = am_nx 9 l (.long 0 :: st) M := rfl
theorem xi_23_9 : am_do xs 23 9 l st M = am_nx 24 l st M := rfl
theorem xi_23_12 : am_do xs 23 12 l st M = am_lda (am_lg l 0) 13 l st M := rfl
theorem xi_23_13 : am_do xs 23 13 l st M = am_a1 st fun o r => (am_gf (am_f M o) 5 2).bind fun w => am_nx 16 l (w :: r) M := rfl
theorem xi_23_16 : am_do xs 23 16 l st M = am_lda (am_lg l 0) 17 l st M := rfl
theorem xi_23_17 : am_do xs 23 17 l st M = am_a1 st fun o r => (am_gf (am_f M o) 5 2).bind fun w => am_nx 20 l (w :: r) M := rfl
theorem xi_23_20 : am_do xs 23 20 l st M = am_aln xs st 21 l M := rfl
theorem xi_23_21 : am_do xs 23 21 l st M = am_nx 22 l (.int 1 :: st) M := rfl
theorem xi_23_22 : am_do xs 23 22 l st M = am_i2 st fun x y r => am_nx 23 l (.int (x - y) :: r) M := rfl
theorem xi_23_23 : am_do xs 23 23 l st M = am_ia st fun i o r => (am_aj (am_f M o) i).bind fun x => am_nx 24 l (.long x :: r) M := rfl
theorem xi_23_24 : am_do xs 23 24 l st M = am_rtj st := rfl
theorem xi_24_0 : am_do xs 24 0 l st M = am_ldi (am_lg l 1) 1 l st M := rfl
theorem xi_24_1 : am_do xs 24 1 l st M = am_i1 st fun x r => am_nx (if x ≤ 0 then 17 else 4) l r M := rfl
theorem xi_24_4 : am_do xs 24 4 l st M = am_ldi (am_lg l 1) 5 l st M := rfl
theorem xi_24_5 : am_do xs 24 5 l st M = am_lda (am_lg l 0) 6 l st M := rfl
theorem xi_24_6 : am_do xs 24 6 l st M = am_a1 st fun o r => (am_gf (am_f M o) 5 2).bind fun w => am_nx 9 l (w :: r) M := rfl
theorem xi_24_9 : am_do xs 24 9 l st M = am_aln xs st 10 l M := rfl
theorem xi_24_10 : am_do xs 24 10 l st M = am_i2 st fun x y r => am_nx (if y ≤ x then 17 else 13) l r M := rfl
theorem xi_24_13 : am_do xs 24 13 l st M = am_nx 14 l (.int 1 :: st) M := rfl
theorem xi_24_14 : am_do xs 24 14 l st M = am_nx 18 l st M := rfl
theorem xi_24_17 : am_do xs 24 17 l st M = am_nx 18 l (.int 0 :: st) M := rfl
theorem xi_24_18 : am_do xs 24 18 l st M = am_i1 st fun x r => am_nx 19 (am_s1 l 2 (.int x)) r M := rfl
theorem xi_24_19 : am_do xs 24 19 l st M = am_ldi (am_lg l 2) 20 l st M := rfl
theorem xi_24_20 : am_do xs 24 20 l st M = am_i1 st fun x r => am_nx (if x = 0 then 41 else 23) l r M := rfl
theorem xi_24_23 : am_do xs 24 23 l st M = am_lda (am_lg l 0) 24 l st M := rfl
theorem xi_24_24 : am_do xs 24 24 l st M = am_a1 st fun o r => (am_gf (am_f M o) 5 2).bind fun w => am_nx 27 l (w :: r) M := rfl
theorem xi_24_27 : am_do xs 24 27 l st M = am_ldi (am_lg l 1) 28 l st M := rfl
theorem xi_24_28 : am_do xs 24 28 l st M = am_ia st fun i o r => (am_aj (am_f M o) i).bind fun x => am_nx 29 l (.long x :: r) M := rfl
theorem xi_24_29 : am_do xs 24 29 l st M = am_lda (am_lg l 0) 30 l st M := rfl
theorem xi_24_30 : am_do xs 24 30 l st M = am_a1 st fun o r => (am_gf (am_f M o) 5 2).bind fun w => am_nx 33 l (w :: r) M := rfl
theorem xi_24_33 : am_do xs 24 33 l st M = am_ldi (am_lg l 1) 34 l st M := rfl
theorem xi_24_34 : am_do xs 24 34 l st M = am_nx 35 l (.int 1 :: st) M := rfl
theorem xi_24_35 : am_do xs 24 35 l st M = am_i2 st fun x y r => am_nx 36 l (.int (x - y) :: r) M := rfl
theorem xi_24_36 : am_do xs 24 36 l st M = am_ia st fun i o r => (am_aj (am_f M o) i).bind fun x => am_nx 37 l (.long x :: r) M := rfl
theorem xi_24_37 : am_do xs 24 37 l st M = am_j2 st fun x y r => am_nx 38 l (.long (x - y) :: r) M := rfl
theorem xi_24_38 : am_do xs 24 38 l st M = am_nx 42 l st M := rfl
theorem xi_24_41 : am_do xs 24 41 l st M = am_nx 42 l (.long 0 :: st) M := rfl
theorem xi_24_42 : am_do xs 24 42 l st M = am_rtj st := rfl
theorem xi_25_0 : am_do xs 25 0 l st M = am_ldi (am_lg l 1) 1 l st M := rfl
theorem xi_25_1 : am_do xs 25 1 l st M = am_i1 st fun x r => am_nx (if x < 0 then 17 else 4) l r M := rfl
theorem xi_25_4 : am_do xs 25 4 l st M = am_ldi (am_lg l 1) 5 l st M := rfl
theorem xi_25_5 : am_do xs 25 5 l st M = am_lda (am_lg l 0) 6 l st M := rfl
theorem xi_25_6 : am_do xs 25 6 l st M = am_a1 st fun o r => (am_gf (am_f M o) 5 0).bind fun w => am_nx 9 l (w :: r) M := rfl
theorem xi_25_9 : am_do xs 25 9 l st M = am_aln xs st 10 l M := rfl
theorem xi_25_10 : am_do xs 25 10 l st M = am_i2 st fun x y r => am_nx (if y ≤ x then 17 else 13) l r M := rfl
theorem xi_25_13 : am_do xs 25 13 l st M = am_nx 14 l (.int 1 :: st) M := rfl
theorem xi_25_14 : am_do xs 25 14 l st M = am_nx 18 l st M := rfl
theorem xi_25_17 : am_do xs 25 17 l st M = am_nx 18 l (.int 0 :: st) M := rfl
theorem xi_25_18 : am_do xs 25 18 l st M = am_i1 st fun x r => am_nx 19 (am_s1 l 2 (.int x)) r M := rfl
theorem xi_25_19 : am_do xs 25 19 l st M = am_ldi (am_lg l 2) 20 l st M := rfl
theorem xi_25_20 : am_do xs 25 20 l st M = am_i1 st fun x r => am_nx (if x = 0 then 49 else 23) l r M := rfl
theorem xi_25_23 : am_do xs 25 23 l st M = am_nx 26 l (.long 4 :: st) M := rfl
theorem xi_25_26 : am_do xs 25 26 l st M = am_lda (am_lg l 0) 27 l st M := rfl
theorem xi_25_27 : am_do xs 25 27 l st M = am_ldi (am_lg l 1) 28 l st M := rfl
theorem xi_25_28 : am_do xs 25 28 l st M = am_inv 1 2 (.retAddr 5) st M := rfl
theorem xt_25_28 : am_to 25 28 = 24 := rfl
theorem xi_25_31 : am_do xs 25 31 l st M = am_inv 0 1 (.retAddr 100) st M := rfl
theorem xt_25_31 : am_to 25 31 = 2 := rfl
theorem xi_25_34 : am_do xs 25 34 l st M = am_j2 st fun x y r => am_nx 35 l (.long (x * y) :: r) M := rfl
theorem xi_25_35 : am_do xs 25 35 l st M = am_lda (am_lg l 0) 36 l st M := rfl
theorem xi_25_36 : am_do xs 25 36 l st M = am_a1 st fun o r => (am_gf (am_f M o) 5 0).bind fun w => am_nx 39 l (w :: r) M := rfl
theorem xi_25_39 : am_do xs 25 39 l st M = am_ldi (am_lg l 1) 40 l st M := rfl
theorem xi_25_40 : am_do xs 25 40 l st M = am_ia st fun i o r => (am_aj (am_f M o) i).bind fun x => am_nx 41 l (.long x :: r) M := rfl
theorem xi_25_41 : am_do xs 25 41 l st M = am_j2 st fun x y r => am_nx 42 l (.int (lg_cmp x y) :: r) M := rfl
theorem xi_25_42 : am_do xs 25 42 l st M = am_i1 st fun x r => am_nx (if x ≤ 0 then 49 else 45) l r M := rfl
theorem xi_25_45 : am_do xs 25 45 l st M = am_nx 46 l (.int 1 :: st) M := rfl
theorem xi_25_46 : am_do xs 25 46 l st M = am_nx 50 l st M := rfl
theorem xi_25_49 : am_do xs 25 49 l st M = am_nx 50 l (.int 0 :: st) M := rfl
theorem xi_25_50 : am_do xs 25 50 l st M = am_rti st 2 := rfl
theorem xi_26_0 : am_do xs 26 0 l st M = am_lda (am_lg l 0) 1 l st M := rfl
theorem xi_26_1 : am_do xs 26 1 l st M = am_a1 st fun _ r => if 8 < am_wt r then none else am_nx 4 l r M := rfl
theorem xi_26_4 : am_do xs 26 4 l st M = am_lda (am_lg l 0) 5 l st M := rfl
theorem xi_26_5 : am_do xs 26 5 l st M = am_nx 6 l (.long 0 :: st) M := rfl
theorem xi_26_6 : am_do xs 26 6 l st M = am_put st 6 1 1 9 l M := rfl
theorem xi_26_9 : am_do xs 26 9 l st M = am_lda (am_lg l 0) 10 l st M := rfl
theorem xi_26_10 : am_do xs 26 10 l st M = am_nx 11 l (.long 0 :: st) M := rfl
theorem xi_26_11 : am_do xs 26 11 l st M = am_put st 6 2 1 14 l M := rfl
theorem xi_26_14 : am_do xs 26 14 l st M = am_lda (am_lg l 0) 15 l st M := rfl
theorem xi_26_15 : am_do xs 26 15 l st M = am_nx 16 l (.int 0 :: st) M := rfl
theorem xi_26_16 : am_do xs 26 16 l st M = am_put st 6 3 2 19 l M := rfl
theorem xi_26_19 : am_do xs 26 19 l st M = am_lda (am_lg l 0) 20 l st M := rfl
theorem xi_26_20 : am_do xs 26 20 l st M = am_ldi (am_lg l 1) 21 l st M := rfl
theorem xi_26_21 : am_do xs 26 21 l st M = am_put st 6 0 0 24 l M := rfl
theorem xi_26_24 : am_do xs 26 24 l st M = am_rtv st := rfl
theorem xi_27_0 : am_do xs 27 0 l st M = am_lda (am_lg l 0) 1 l st M := rfl
theorem xi_27_1 : am_do xs 27 1 l st M = am_a1 st fun _ r => if 8 < am_wt r then none else am_nx 4 l r M := rfl
theorem xi_27_4 : am_do xs 27 4 l st M = am_lda (am_lg l 0) 5 l st M := rfl
theorem xi_27_5 : am_do xs 27 5 l st M = am_nx 8 l (.ref M.1 :: st) (am_new M (am_nf 1).length (.inr (1, am_nf 1))) := rfl
theorem xi_27_8 : am_do xs 27 8 l st M = am_dup st 9 l M := rfl
theorem xi_27_9 : am_do xs 27 9 l st M = am_inv 12 1 (.retAddr 1) st M := rfl
theorem xt_27_9 : am_to 27 9 = 10 := rfl
theorem xi_27_12 : am_do xs 27 12 l st M = am_put st 7 0 4 15 l M := rfl
theorem xi_27_15 : am_do xs 27 15 l st M = am_lda (am_lg l 0) 16 l st M := rfl
theorem xi_27_16 : am_do xs 27 16 l st M = am_nx 19 l (.ref M.1 :: st) (am_new M (am_nf 1).length (.inr (1, am_nf 1))) := rfl
theorem xi_27_19 : am_do xs 27 19 l st M = am_dup st 20 l M := rfl
theorem xi_27_20 : am_do xs 27 20 l st M = am_inv 12 1 (.retAddr 1) st M := rfl
theorem xt_27_20 : am_to 27 20 = 10 := rfl
theorem xi_27_23 : am_do xs 27 23 l st M = am_put st 7 1 4 26 l M := rfl
theorem xi_27_26 : am_do xs 27 26 l st M = am_lda (am_lg l 0) 27 l st M := rfl
theorem xi_27_27 : am_do xs 27 27 l st M = am_nx 28 l (.int 0 :: st) M := rfl
theorem xi_27_28 : am_do xs 27 28 l st M = am_put st 7 2 0 31 l M := rfl
theorem xi_27_31 : am_do xs 27 31 l st M = am_lda (am_lg l 0) 32 l st M := rfl
theorem xi_27_32 : am_do xs 27 32 l st M = am_nx 34 l (.int 10 :: st) M := rfl
theorem xi_27_34 : am_do xs 27 34 l st M = am_i1 st fun n r => if n < 0 ∨ 100000 < n.toNatClampNeg then none else am_nx 37 l (.ref M.1 :: r) (am_new M n.toNatClampNeg (am_na 4 n.toNatClampNeg)) := rfl
theorem xi_27_37 : am_do xs 27 37 l st M = am_put st 7 3 4 40 l M := rfl
theorem xi_27_40 : am_do xs 27 40 l st M = am_lda (am_lg l 0) 41 l st M := rfl
theorem xi_27_41 : am_do xs 27 41 l st M = am_nx 43 l (.int 10 :: st) M := rfl
theorem xi_27_43 : am_do xs 27 43 l st M = am_i1 st fun n r => if n < 0 ∨ 100000 < n.toNatClampNeg then none else am_nx 46 l (.ref M.1 :: r) (am_new M n.toNatClampNeg (am_na 4 n.toNatClampNeg)) := rfl
theorem xi_27_46 : am_do xs 27 46 l st M = am_put st 7 4 4 49 l M := rfl
theorem xi_27_49 : am_do xs 27 49 l st M = am_lda (am_lg l 0) 50 l st M := rfl
theorem xi_27_50 : am_do xs 27 50 l st M = am_nx 51 l (.int 0 :: st) M := rfl
theorem xi_27_51 : am_do xs 27 51 l st M = am_put st 7 5 0 54 l M := rfl
theorem xi_27_54 : am_do xs 27 54 l st M = am_lda (am_lg l 0) 55 l st M := rfl
theorem xi_27_55 : am_do xs 27 55 l st M = am_nx 56 l (.int 0 :: st) M := rfl
theorem xi_27_56 : am_do xs 27 56 l st M = am_i1 st fun n r => if n < 0 ∨ 100000 < n.toNatClampNeg then none else am_nx 58 l (.ref M.1 :: r) (am_new M n.toNatClampNeg (am_na 1 n.toNatClampNeg)) := rfl
theorem xi_27_58 : am_do xs 27 58 l st M = am_put st 7 7 4 61 l M := rfl
theorem xi_27_61 : am_do xs 27 61 l st M = am_lda (am_lg l 0) 62 l st M := rfl
theorem xi_27_62 : am_do xs 27 62 l st M = am_nx 64 l (.int 100 :: st) M := rfl
theorem xi_27_64 : am_do xs 27 64 l st M = am_put st 7 8 0 67 l M := rfl
theorem xi_27_67 : am_do xs 27 67 l st M = am_lda (am_lg l 0) 68 l st M := rfl
theorem xi_27_68 : am_do xs 27 68 l st M = am_nx 71 l (.ref M.1 :: st) (am_new M (am_nf 2).length (.inr (2, am_nf 2))) := rfl
theorem xi_27_71 : am_do xs 27 71 l st M = am_dup st 72 l M := rfl
theorem xi_27_72 : am_do xs 27 72 l st M = am_inv 12 1 (.retAddr 2) st M := rfl
theorem xt_27_72 : am_to 27 72 = 15 := rfl
theorem xi_27_75 : am_do xs 27 75 l st M = am_put st 7 9 4 78 l M := rfl
theorem xi_27_78 : am_do xs 27 78 l st M = am_lda (am_lg l 0) 79 l st M := rfl
theorem xi_27_79 : am_do xs 27 79 l st M = am_nx 81 l (.int 20 :: st) M := rfl
theorem xi_27_81 : am_do xs 27 81 l st M = am_i1 st fun n r => if n < 0 ∨ 100000 < n.toNatClampNeg then none else am_nx 84 l (.ref M.1 :: r) (am_new M n.toNatClampNeg (am_na 5 n.toNatClampNeg)) := rfl
theorem xi_27_84 : am_do xs 27 84 l st M = am_put st 7 10 4 87 l M := rfl
theorem xi_27_87 : am_do xs 27 87 l st M = am_lda (am_lg l 0) 88 l st M := rfl
theorem xi_27_88 : am_do xs 27 88 l st M = am_nx 89 l (.int 0 :: st) M := rfl
theorem xi_27_89 : am_do xs 27 89 l st M = am_put st 7 11 0 92 l M := rfl
theorem xi_27_92 : am_do xs 27 92 l st M = am_lda (am_lg l 0) 93 l st M := rfl
theorem xi_27_93 : am_do xs 27 93 l st M = am_nx 94 l (.null :: st) M := rfl
theorem xi_27_94 : am_do xs 27 94 l st M = am_put st 7 12 4 97 l M := rfl
theorem xi_27_97 : am_do xs 27 97 l st M = am_lda (am_lg l 0) 98 l st M := rfl
theorem xi_27_98 : am_do xs 27 98 l st M = am_nx 100 l (.int 100 :: st) M := rfl
theorem xi_27_100 : am_do xs 27 100 l st M = am_i1 st fun n r => if n < 0 ∨ 100000 < n.toNatClampNeg then none else am_nx 103 l (.ref M.1 :: r) (am_new M n.toNatClampNeg (am_na 6 n.toNatClampNeg)) := rfl
theorem xi_27_103 : am_do xs 27 103 l st M = am_put st 7 13 4 106 l M := rfl
theorem xi_27_106 : am_do xs 27 106 l st M = am_lda (am_lg l 0) 107 l st M := rfl
theorem xi_27_107 : am_do xs 27 107 l st M = am_nx 108 l (.int 0 :: st) M := rfl
theorem xi_27_108 : am_do xs 27 108 l st M = am_put st 7 14 0 111 l M := rfl
theorem xi_27_111 : am_do xs 27 111 l st M = am_lda (am_lg l 0) 112 l st M := rfl
theorem xi_27_112 : am_do xs 27 112 l st M = am_nx 113 l (.long 0 :: st) M := rfl
theorem xi_27_113 : am_do xs 27 113 l st M = am_put st 7 15 1 116 l M := rfl
theorem xi_27_116 : am_do xs 27 116 l st M = am_lda (am_lg l 0) 117 l st M := rfl
theorem xi_27_117 : am_do xs 27 117 l st M = am_nx 120 l (.long 1000 :: st) M := rfl
theorem xi_27_120 : am_do xs 27 120 l st M = am_put st 7 16 1 123 l M := rfl
theorem xi_27_123 : am_do xs 27 123 l st M = am_lda (am_lg l 0) 124 l st M := rfl
theorem xi_27_124 : am_do xs 27 124 l st M = am_nx 126 l (.int 10 :: st) M := rfl
theorem xi_27_126 : am_do xs 27 126 l st M = am_put st 7 17 0 129 l M := rfl
theorem xi_27_129 : am_do xs 27 129 l st M = am_nx 130 l (.int 0 :: st) M := rfl
theorem xi_27_130 : am_do xs 27 130 l st M = am_i1 st fun x r => am_nx 131 (am_s1 l 1 (.int x)) r M := rfl
theorem xi_27_131 : am_do xs 27 131 l st M = am_ldi (am_lg l 1) 132 l st M := rfl
theorem xi_27_132 : am_do xs 27 132 l st M = am_lda (am_lg l 0) 133 l st M := rfl
theorem xi_27_133 : am_do xs 27 133 l st M = am_a1 st fun o r => (am_gf (am_f M o) 7 3).bind fun w => am_nx 136 l (w :: r) M := rfl
theorem xi_27_136 : am_do xs 27 136 l st M = am_aln xs st 137 l M := rfl
theorem xi_27_137 : am_do xs 27 137 l st M = am_i2 st fun x y r => am_nx (if y ≤ x then 160 else 140) l r M := rfl
theorem xi_27_140 : am_do xs 27 140 l st M = am_lda (am_lg l 0) 141 l st M := rfl
theorem xi_27_141 : am_do xs 27 141 l st M = am_a1 st fun o r => (am_gf (am_f M o) 7 3).bind fun w => am_nx 144 l (w :: r) M := rfl
theorem xi_27_144 : am_do xs 27 144 l st M = am_ldi (am_lg l 1) 145 l st M := rfl
theorem xi_27_145 : am_do xs 27 145 l st M = am_nx 148 l (.ref M.1 :: st) (am_new M (am_nf 6).length (.inr (6, am_nf 6))) := rfl
theorem xi_27_148 : am_do xs 27 148 l st M = am_dup st 149 l M := rfl
theorem xi_27_149 : am_do xs 27 149 l st M = am_ldi (am_lg l 1) 150 l st M := rfl
theorem xi_27_150 : am_do xs 27 150 l st M = am_inv 2 2 (.retAddr 6) st M := rfl
theorem xt_27_150 : am_to 27 150 = 26 := rfl
theorem xi_27_153 : am_do xs 27 153 l st M = am_aas st 154 l M := rfl
theorem xi_27_154 : am_do xs 27 154 l st M = am_inc (am_lg l 1) 1 1 157 l st M := rfl
theorem xi_27_157 : am_do xs 27 157 l st M = am_nx 131 l st M := rfl
theorem xi_27_160 : am_do xs 27 160 l st M = am_lda (am_lg l 0) 161 l st M := rfl
theorem xi_27_161 : am_do xs 27 161 l st M = am_lda (am_lg l 0) 162 l st M := rfl
theorem xi_27_162 : am_do xs 27 162 l st M = am_a1 st fun o r => (am_gf (am_f M o) 7 3).bind fun w => am_nx 165 l (w :: r) M := rfl
theorem xi_27_165 : am_do xs 27 165 l st M = am_nx 166 l (.int 0 :: st) M := rfl
theorem xi_27_166 : am_do xs 27 166 l st M = am_ia st fun i o r => (am_aa (am_f M o) i).bind fun w => am_nx 167 l (w :: r) M := rfl
theorem xi_27_167 : am_do xs 27 167 l st M = am_put st 7 6 4 170 l M := rfl
theorem xi_27_170 : am_do xs 27 170 l st M = am_rtv st := rfl
theorem xi_28_0 : am_do xs 28 0 l st M = am_ldj (am_lg l 1) 1 l st M := rfl
theorem xi_28_1 : am_do xs 28 1 l st M = am_nx 2 l (.long 0 :: st) M := rfl
theorem xi_28_2 : am_do xs 28 2 l st M = am_nx 5 l (.long 10000000000000 :: st) M := rfl
theorem xi_28_5 : am_do xs 28 5 l st M = am_inv 0 3 (.retAddr 7) st M := rfl
theorem xt_28_5 : am_to 28 5 = 80 := rfl
theorem xi_28_8 : am_do xs 28 8 l st M = am_ldi (am_lg l 3) 9 l st M := rfl
theorem xi_28_9 : am_do xs 28 9 l st M = am_i1 st fun x r => am_nx 10 l (.long x.toInt64 :: r) M := rfl
theorem xi_28_10 : am_do xs 28 10 l st M = am_nx 13 l (.long (-10000000) :: st) M := rfl
theorem xi_28_13 : am_do xs 28 13 l st M = am_nx 16 l (.long 10000000 :: st) M := rfl
theorem xi_28_16 : am_do xs 28 16 l st M = am_inv 0 3 (.retAddr 7) st M := rfl
theorem xt_28_16 : am_to 28 16 = 80 := rfl
theorem xi_28_19 : am_do xs 28 19 l st M = am_lda (am_lg l 0) 20 l st M := rfl
theorem xi_28_20 : am_do xs 28 20 l st M = am_inv 1 1 (.retAddr 7) st M := rfl
theorem xt_28_20 : am_to 28 20 = 83 := rfl
theorem xi_28_23 : am_do xs 28 23 l st M = am_lda (am_lg l 0) 24 l st M := rfl
theorem xi_28_24 : am_do xs 28 24 l st M = am_a1 st fun o r => (am_gf (am_f M o) 7 0).bind fun w => am_nx 27 l (w :: r) M := rfl
theorem xi_28_27 : am_do xs 28 27 l st M = am_ldj (am_lg l 1) 28 l st M := rfl
theorem xi_28_28 : am_do xs 28 28 l st M = am_put st 1 0 1 31 l M := rfl
theorem xi_28_31 : am_do xs 28 31 l st M = am_lda (am_lg l 0) 32 l st M := rfl
theorem xi_28_32 : am_do xs 28 32 l st M = am_a1 st fun o r => (am_gf (am_f M o) 7 0).bind fun w => am_nx 35 l (w :: r) M := rfl
theorem xi_28_35 : am_do xs 28 35 l st M = am_ldi (am_lg l 3) 36 l st M := rfl
theorem xi_28_36 : am_do xs 28 36 l st M = am_put st 1 1 0 39 l M := rfl
theorem xi_28_39 : am_do xs 28 39 l st M = am_rtv st := rfl
theorem xi_29_0 : am_do xs 29 0 l st M = am_ldi (am_lg l 1) 1 l st M := rfl
theorem xi_29_1 : am_do xs 29 1 l st M = am_i1 st fun x r => am_nx 2 l (.long x.toInt64 :: r) M := rfl
theorem xi_29_2 : am_do xs 29 2 l st M = am_nx 3 l (.long 1 :: st) M := rfl
theorem xi_29_3 : am_do xs 29 3 l st M = am_nx 6 l (.long 1000 :: st) M := rfl
theorem xi_29_6 : am_do xs 29 6 l st M = am_inv 0 3 (.retAddr 7) st M := rfl
theorem xt_29_6 : am_to 29 6 = 80 := rfl
theorem xi_29_9 : am_do xs 29 9 l st M = am_ldi (am_lg l 2) 10 l st M := rfl
theorem xi_29_10 : am_do xs 29 10 l st M = am_i1 st fun x r => am_nx 11 l (.long x.toInt64 :: r) M := rfl
theorem xi_29_11 : am_do xs 29 11 l st M = am_nx 14 l (.long (-10000) :: st) M := rfl
theorem xi_29_14 : am_do xs 29 14 l st M = am_nx 17 l (.long 10000 :: st) M := rfl
theorem xi_29_17 : am_do xs 29 17 l st M = am_inv 0 3 (.retAddr 7) st M := rfl
theorem xt_29_17 : am_to 29 17 = 80 := rfl
theorem xi_29_20 : am_do xs 29 20 l st M = am_lda (am_lg l 0) 21 l st M := rfl
theorem xi_29_21 : am_do xs 29 21 l st M = am_a1 st fun o r => (am_gf (am_f M o) 7 0).bind fun w => am_nx 24 l (w :: r) M := rfl
theorem xi_29_24 : am_do xs 29 24 l st M = am_a1 st fun o r => (am_gf (am_f M o) 1 2).bind fun w => am_nx 27 l (w :: r) M := rfl
theorem xi_29_27 : am_do xs 29 27 l st M = am_nx 29 l (.int 20 :: st) M := rfl
theorem xi_29_29 : am_do xs 29 29 l st M = am_i2 st fun x y r => am_nx (if x < y then 42 else 32) l r M := rfl
theorem xi_29_32 : am_do xs 29 32 l st M = if am_wt st ≤ 8 then some (.inr (.inr (.inl 101))) else none := rfl
theorem xi_29_35 : am_do xs 29 35 l st M = am_dup st 36 l M := rfl
theorem xi_29_42 : am_do xs 29 42 l st M = am_lda (am_lg l 0) 43 l st M := rfl
theorem xi_29_43 : am_do xs 29 43 l st M = am_a1 st fun o r => (am_gf (am_f M o) 7 0).bind fun w => am_nx 46 l (w :: r) M := rfl
theorem xi_29_46 : am_do xs 29 46 l st M = am_ldi (am_lg l 1) 47 l st M := rfl
theorem xi_29_47 : am_do xs 29 47 l st M = am_ldi (am_lg l 2) 48 l st M := rfl
theorem xi_29_48 : am_do xs 29 48 l st M = am_inv 1 3 (.retAddr 1) st M := rfl
theorem xt_29_48 : am_to 29 48 = 11 := rfl
theorem xi_29_51 : am_do xs 29 51 l st M = am_lda (am_lg l 0) 52 l st M := rfl
theorem xi_29_52 : am_do xs 29 52 l st M = am_a1 st fun o r => (am_gf (am_f M o) 7 0).bind fun w => am_nx 55 l (w :: r) M := rfl
theorem xi_29_55 : am_do xs 29 55 l st M = am_a1 st fun o r => (am_gf (am_f M o) 1 2).bind fun w => am_nx 58 l (w :: r) M := rfl
theorem xi_29_58 : am_do xs 29 58 l st M = am_rti st 0 := rfl
theorem xi_30_0 : am_do xs 30 0 l st M = am_lda (am_lg l 0) 1 l st M := rfl
theorem xi_30_1 : am_do xs 30 1 l st M = am_a1 st fun o r => (am_gf (am_f M o) 7 0).bind fun w => am_nx 4 l (w :: r) M := rfl
theorem xi_30_4 : am_do xs 30 4 l st M = am_a1 st fun o r => (am_gf (am_f M o) 1 2).bind fun w => am_nx 7 l (w :: r) M := rfl
theorem xi_30_7 : am_do xs 30 7 l st M = am_i1 st fun x r => am_nx 8 (am_s1 l 1 (.int x)) r M := rfl
theorem xi_30_8 : am_do xs 30 8 l st M = am_lda (am_lg l 0) 9 l st M := rfl
theorem xi_30_9 : am_do xs 30 9 l st M = am_a1 st fun o r => (am_gf (am_f M o) 7 0).bind fun w => am_nx 12 l (w :: r) M := rfl
theorem xi_30_12 : am_do xs 30 12 l st M = am_nx 13 l (.int 0 :: st) M := rfl
theorem xi_30_13 : am_do xs 30 13 l st M = am_put st 1 2 0 16 l M := rfl
theorem xi_30_16 : am_do xs 30 16 l st M = am_ldi (am_lg l 1) 17 l st M := rfl
theorem xi_30_17 : am_do xs 30 17 l st M = am_rti st 0 := rfl
theorem xi_31_0 : am_do xs 31 0 l st M = am_ldi (am_lg l 1) 1 l st M := rfl
theorem xi_31_1 : am_do xs 31 1 l st M = am_i1 st fun x r => am_nx 2 l (.long x.toInt64 :: r) M := rfl
theorem xi_31_2 : am_do xs 31 2 l st M = am_nx 3 l (.long 1 :: st) M := rfl
theorem xi_31_3 : am_do xs 31 3 l st M = am_nx 6 l (.long 1000 :: st) M := rfl
theorem xi_31_6 : am_do xs 31 6 l st M = am_inv 0 3 (.retAddr 7) st M := rfl
theorem xt_31_6 : am_to 31 6 = 80 := rfl
theorem xi_31_9 : am_do xs 31 9 l st M = am_lda (am_lg l 0) 10 l st M := rfl
theorem xi_31_10 : am_do xs 31 10 l st M = am_a1 st fun o r => (am_gf (am_f M o) 7 2).bind fun w => am_nx 13 l (w :: r) M := rfl
theorem xi_31_13 : am_do xs 31 13 l st M = am_ldi (am_lg l 1) 14 l st M := rfl
theorem xi_31_14 : am_do xs 31 14 l st M = am_i2 st fun x y r => am_nx 15 l (.int (x + y) :: r) M := rfl
theorem xi_31_15 : am_do xs 31 15 l st M = am_nx 17 l (.int 1000000 :: st) M := rfl
theorem xi_31_17 : am_do xs 31 17 l st M = am_i2 st fun x y r => am_nx (if x ≤ y then 30 else 20) l r M := rfl
theorem xi_31_20 : am_do xs 31 20 l st M = if am_wt st ≤ 8 then some (.inr (.inr (.inl 101))) else none := rfl
theorem xi_31_23 : am_do xs 31 23 l st M = am_dup st 24 l M := rfl
theorem xi_31_30 : am_do xs 31 30 l st M = am_nx 31 l (.int 0 :: st) M := rfl
theorem xi_31_31 : am_do xs 31 31 l st M = am_i1 st fun x r => am_nx 32 (am_s1 l 2 (.int x)) r M := rfl
theorem xi_31_32 : am_do xs 31 32 l st M = am_ldi (am_lg l 2) 33 l st M := rfl
theorem xi_31_33 : am_do xs 31 33 l st M = am_ldi (am_lg l 1) 34 l st M := rfl
theorem xi_31_34 : am_do xs 31 34 l st M = am_i2 st fun x y r => am_nx (if y ≤ x then 50 else 37) l r M := rfl
theorem xi_31_37 : am_do xs 31 37 l st M = am_lda (am_lg l 0) 38 l st M := rfl
theorem xi_31_38 : am_do xs 31 38 l st M = am_a1 st fun o r => (am_gf (am_f M o) 7 0).bind fun w => am_nx 41 l (w :: r) M := rfl
theorem xi_31_41 : am_do xs 31 41 l st M = am_inv 1 1 (.retAddr 1) st M := rfl
theorem xt_31_41 : am_to 31 41 = 13 := rfl
theorem xi_31_44 : am_do xs 31 44 l st M = am_inc (am_lg l 2) 2 1 47 l st M := rfl
theorem xi_31_47 : am_do xs 31 47 l st M = am_nx 32 l st M := rfl
theorem xi_31_50 : am_do xs 31 50 l st M = am_lda (am_lg l 0) 51 l st M := rfl
theorem xi_31_51 : am_do xs 31 51 l st M = am_dup st 52 l M := rfl
theorem xi_31_52 : am_do xs 31 52 l st M = am_a1 st fun o r => (am_gf (am_f M o) 7 2).bind fun w => am_nx 55 l (w :: r) M := rfl
theorem xi_31_55 : am_do xs 31 55 l st M = am_ldi (am_lg l 1) 56 l st M := rfl
theorem xi_31_56 : am_do xs 31 56 l st M = am_i2 st fun x y r => am_nx 57 l (.int (x + y) :: r) M := rfl
theorem xi_31_57 : am_do xs 31 57 l st M = am_put st 7 2 0 60 l M := rfl
theorem xi_31_60 : am_do xs 31 60 l st M = am_lda (am_lg l 0) 61 l st M := rfl
theorem xi_31_61 : am_do xs 31 61 l st M = am_a1 st fun o r => (am_gf (am_f M o) 7 2).bind fun w => am_nx 64 l (w :: r) M := rfl
theorem xi_31_64 : am_do xs 31 64 l st M = am_rti st 0 := rfl
theorem xi_32_0 : am_do xs 32 0 l st M = am_lda (am_lg l 0) 1 l st M := rfl
theorem xi_32_1 : am_do xs 32 1 l st M = am_a1 st fun o r => (am_gf (am_f M o) 7 2).bind fun w => am_nx 4 l (w :: r) M := rfl
theorem xi_32_4 : am_do xs 32 4 l st M = am_rti st 0 := rfl
theorem xi_33_0 : am_do xs 33 0 l st M = am_lda (am_lg l 0) 1 l st M := rfl
theorem xi_33_1 : am_do xs 33 1 l st M = am_a1 st fun o r => (am_gf (am_f M o) 7 0).bind fun w => am_nx 4 l (w :: r) M := rfl
theorem xi_33_4 : am_do xs 33 4 l st M = am_a1 st fun o r => (am_gf (am_f M o) 1 0).bind fun w => am_nx 7 l (w :: r) M := rfl
theorem xi_33_7 : am_do xs 33 7 l st M = am_rtj st := rfl
theorem xi_34_0 : am_do xs 34 0 l st M = am_lda (am_lg l 0) 1 l st M := rfl
theorem xi_34_1 : am_do xs 34 1 l st M = am_a1 st fun o r => (am_gf (am_f M o) 7 0).bind fun w => am_nx 4 l (w :: r) M := rfl
theorem xi_34_4 : am_do xs 34 4 l st M = am_a1 st fun o r => (am_gf (am_f M o) 1 1).bind fun w => am_nx 7 l (w :: r) M := rfl
theorem xi_34_7 : am_do xs 34 7 l st M = am_rti st 0 := rfl
theorem xi_35_0 : am_do xs 35 0 l st M = am_ldi (am_lg l 1) 1 l st M := rfl
theorem xi_35_1 : am_do xs 35 1 l st M = am_i1 st fun x r => am_nx 2 l (.long x.toInt64 :: r) M := rfl
theorem xi_35_2 : am_do xs 35 2 l st M = am_nx 3 l (.long 0 :: st) M := rfl
theorem xi_35_3 : am_do xs 35 3 l st M = am_nx 6 l (.long 1000 :: st) M := rfl
theorem xi_35_6 : am_do xs 35 6 l st M = am_inv 0 3 (.retAddr 7) st M := rfl
theorem xt_35_6 : am_to 35 6 = 80 := rfl
theorem xi_35_9 : am_do xs 35 9 l st M = am_lda (am_lg l 0) 10 l st M := rfl
theorem xi_35_10 : am_do xs 35 10 l st M = am_a1 st fun o r => (am_gf (am_f M o) 7 1).bind fun w => am_nx 13 l (w :: r) M := rfl
theorem xi_35_13 : am_do xs 35 13 l st M = am_lda (am_lg l 0) 14 l st M := rfl
theorem xi_35_14 : am_do xs 35 14 l st M = am_a1 st fun o r => (am_gf (am_f M o) 7 0).bind fun w => am_nx 17 l (w :: r) M := rfl
theorem xi_35_17 : am_do xs 35 17 l st M = am_inv 1 2 (.retAddr 1) st M := rfl
theorem xt_35_17 : am_to 35 17 = 12 := rfl
theorem xi_35_20 : am_do xs 35 20 l st M = am_nx 21 l (.int 0 :: st) M := rfl
theorem xi_35_21 : am_do xs 35 21 l st M = am_i1 st fun x r => am_nx 22 (am_s1 l 2 (.int x)) r M := rfl
theorem xi_35_22 : am_do xs 35 22 l st M = am_ldi (am_lg l 2) 23 l st M := rfl
theorem xi_35_23 : am_do xs 35 23 l st M = am_ldi (am_lg l 1) 24 l st M := rfl
theorem xi_35_24 : am_do xs 35 24 l st M = am_i2 st fun x y r => am_nx (if y ≤ x then 40 else 27) l r M := rfl
theorem xi_35_27 : am_do xs 35 27 l st M = am_lda (am_lg l 0) 28 l st M := rfl
theorem xi_35_28 : am_do xs 35 28 l st M = am_a1 st fun o r => (am_gf (am_f M o) 7 1).bind fun w => am_nx 31 l (w :: r) M := rfl
theorem xi_35_31 : am_do xs 35 31 l st M = am_inv 1 1 (.retAddr 1) st M := rfl
theorem xt_35_31 : am_to 35 31 = 13 := rfl
theorem xi_35_34 : am_do xs 35 34 l st M = am_inc (am_lg l 2) 2 1 37 l st M := rfl
theorem xi_35_37 : am_do xs 35 37 l st M = am_nx 22 l st M := rfl
theorem xi_35_40 : am_do xs 35 40 l st M = am_lda (am_lg l 0) 41 l st M := rfl
theorem xi_35_41 : am_do xs 35 41 l st M = am_a1 st fun o r => (am_gf (am_f M o) 7 1).bind fun w => am_nx 44 l (w :: r) M := rfl
theorem xi_35_44 : am_do xs 35 44 l st M = am_a1 st fun o r => (am_gf (am_f M o) 1 0).bind fun w => am_nx 47 l (w :: r) M := rfl
theorem xi_35_47 : am_do xs 35 47 l st M = am_rtj st := rfl
theorem xi_36_0 : am_do xs 36 0 l st M = am_ldi (am_lg l 1) 1 l st M := rfl
theorem xi_36_1 : am_do xs 36 1 l st M = am_i1 st fun x r => am_nx 2 l (.long x.toInt64 :: r) M := rfl
theorem xi_36_2 : am_do xs 36 2 l st M = am_nx 3 l (.long 0 :: st) M := rfl
theorem xi_36_3 : am_do xs 36 3 l st M = am_nx 6 l (.long 1000 :: st) M := rfl
theorem xi_36_6 : am_do xs 36 6 l st M = am_inv 0 3 (.retAddr 7) st M := rfl
theorem xt_36_6 : am_to 36 6 = 80 := rfl
theorem xi_36_9 : am_do xs 36 9 l st M = am_lda (am_lg l 0) 10 l st M := rfl
theorem xi_36_10 : am_do xs 36 10 l st M = am_a1 st fun o r => (am_gf (am_f M o) 7 1).bind fun w => am_nx 13 l (w :: r) M := rfl
theorem xi_36_13 : am_do xs 36 13 l st M = am_lda (am_lg l 0) 14 l st M := rfl
theorem xi_36_14 : am_do xs 36 14 l st M = am_a1 st fun o r => (am_gf (am_f M o) 7 0).bind fun w => am_nx 17 l (w :: r) M := rfl
theorem xi_36_17 : am_do xs 36 17 l st M = am_inv 1 2 (.retAddr 1) st M := rfl
theorem xt_36_17 : am_to 36 17 = 12 := rfl
theorem xi_36_20 : am_do xs 36 20 l st M = am_lda (am_lg l 0) 21 l st M := rfl
theorem xi_36_21 : am_do xs 36 21 l st M = am_a1 st fun o r => (am_gf (am_f M o) 7 1).bind fun w => am_nx 24 l (w :: r) M := rfl
theorem xi_36_24 : am_do xs 36 24 l st M = am_a1 st fun o r => (am_gf (am_f M o) 1 0).bind fun w => am_nx 27 l (w :: r) M := rfl
theorem xi_36_27 : am_do xs 36 27 l st M = am_j1 st fun x r => am_nx 28 (am_s2 l 2 (.long x)) r M := rfl
theorem xi_36_28 : am_do xs 36 28 l st M = am_nx 29 l (.int 0 :: st) M := rfl
theorem xi_36_29 : am_do xs 36 29 l st M = am_i1 st fun x r => am_nx 31 (am_s1 l 4 (.int x)) r M := rfl
theorem xi_36_31 : am_do xs 36 31 l st M = am_nx 32 l (.int 1 :: st) M := rfl
theorem xi_36_32 : am_do xs 36 32 l st M = am_i1 st fun x r => am_nx 34 (am_s1 l 5 (.int x)) r M := rfl
theorem xi_36_34 : am_do xs 36 34 l st M = am_ldi (am_lg l 5) 36 l st M := rfl
theorem xi_36_36 : am_do xs 36 36 l st M = am_ldi (am_lg l 1) 37 l st M := rfl
theorem xi_36_37 : am_do xs 36 37 l st M = am_i2 st fun x y r => am_nx (if y < x then 77 else 40) l r M := rfl
theorem xi_36_40 : am_do xs 36 40 l st M = am_lda (am_lg l 0) 41 l st M := rfl
theorem xi_36_41 : am_do xs 36 41 l st M = am_a1 st fun o r => (am_gf (am_f M o) 7 1).bind fun w => am_nx 44 l (w :: r) M := rfl
theorem xi_36_44 : am_do xs 36 44 l st M = am_inv 1 1 (.retAddr 1) st M := rfl
theorem xt_36_44 : am_to 36 44 = 13 := rfl
theorem xi_36_47 : am_do xs 36 47 l st M = am_lda (am_lg l 0) 48 l st M := rfl
theorem xi_36_48 : am_do xs 36 48 l st M = am_a1 st fun o r => (am_gf (am_f M o) 7 1).bind fun w => am_nx 51 l (w :: r) M := rfl
theorem xi_36_51 : am_do xs 36 51 l st M = am_a1 st fun o r => (am_gf (am_f M o) 1 0).bind fun w => am_nx 54 l (w :: r) M := rfl
theorem xi_36_54 : am_do xs 36 54 l st M = am_ldj (am_lg l 2) 55 l st M := rfl
theorem xi_36_55 : am_do xs 36 55 l st M = am_j2 st fun x y r => am_nx 56 l (.int (lg_cmp x y) :: r) M := rfl
theorem xi_36_56 : am_do xs 36 56 l st M = am_i1 st fun x r => am_nx (if 0 ≤ x then 71 else 59) l r M := rfl
theorem xi_36_59 : am_do xs 36 59 l st M = am_lda (am_lg l 0) 60 l st M := rfl
theorem xi_36_60 : am_do xs 36 60 l st M = am_a1 st fun o r => (am_gf (am_f M o) 7 1).bind fun w => am_nx 63 l (w :: r) M := rfl
theorem xi_36_63 : am_do xs 36 63 l st M = am_a1 st fun o r => (am_gf (am_f M o) 1 0).bind fun w => am_nx 66 l (w :: r) M := rfl
theorem xi_36_66 : am_do xs 36 66 l st M = am_j1 st fun x r => am_nx 67 (am_s2 l 2 (.long x)) r M := rfl
theorem xi_36_67 : am_do xs 36 67 l st M = am_ldi (am_lg l 5) 69 l st M := rfl
theorem xi_36_69 : am_do xs 36 69 l st M = am_i1 st fun x r => am_nx 71 (am_s1 l 4 (.int x)) r M := rfl
theorem xi_36_71 : am_do xs 36 71 l st M = am_inc (am_lg l 5) 5 1 74 l st M := rfl
theorem xi_36_74 : am_do xs 36 74 l st M = am_nx 34 l st M := rfl
theorem xi_36_77 : am_do xs 36 77 l st M = am_ldi (am_lg l 4) 79 l st M := rfl
theorem xi_36_79 : am_do xs 36 79 l st M = am_rti st 0 := rfl
theorem xi_37_0 : am_do xs 37 0 l st M = am_lda (am_lg l 0) 1 l st M := rfl
theorem xi_37_1 : am_do xs 37 1 l st M = am_ldi (am_lg l 1) 2 l st M := rfl
theorem xi_37_2 : am_do xs 37 2 l st M = am_inv 1 2 (.retAddr 7) st M := rfl
theorem xt_37_2 : am_to 37 2 = 85 := rfl
theorem xi_37_5 : am_do xs 37 5 l st M = am_sta 4 7 l st M := rfl
theorem xi_37_7 : am_do xs 37 7 l st M = am_ldj (am_lg l 2) 8 l st M := rfl
theorem xi_37_8 : am_do xs 37 8 l st M = am_nx 9 l (.long 0 :: st) M := rfl
theorem xi_37_9 : am_do xs 37 9 l st M = am_nx 12 l (.long 1000000000 :: st) M := rfl
theorem xi_37_12 : am_do xs 37 12 l st M = am_inv 0 3 (.retAddr 7) st M := rfl
theorem xt_37_12 : am_to 37 12 = 80 := rfl
theorem xi_37_15 : am_do xs 37 15 l st M = am_lda (am_lg l 4) 17 l st M := rfl
theorem xi_37_17 : am_do xs 37 17 l st M = am_a1 st fun o r => (am_gf (am_f M o) 6 1).bind fun w => am_nx 20 l (w :: r) M := rfl
theorem xi_37_20 : am_do xs 37 20 l st M = am_j1 st fun x r => am_nx 22 (am_s2 l 5 (.long x)) r M := rfl
theorem xi_37_22 : am_do xs 37 22 l st M = am_lda (am_lg l 4) 24 l st M := rfl
theorem xi_37_24 : am_do xs 37 24 l st M = am_ldj (am_lg l 2) 25 l st M := rfl
theorem xi_37_25 : am_do xs 37 25 l st M = am_put st 6 1 1 28 l M := rfl
theorem xi_37_28 : am_do xs 37 28 l st M = am_ldj (am_lg l 5) 30 l st M := rfl
theorem xi_37_30 : am_do xs 37 30 l st M = am_rtj st := rfl
theorem xi_38_0 : am_do xs 38 0 l st M = am_lda (am_lg l 0) 1 l st M := rfl
theorem xi_38_1 : am_do xs 38 1 l st M = am_ldi (am_lg l 1) 2 l st M := rfl
theorem xi_38_2 : am_do xs 38 2 l st M = am_inv 1 2 (.retAddr 7) st M := rfl
theorem xt_38_2 : am_to 38 2 = 85 := rfl
theorem xi_38_5 : am_do xs 38 5 l st M = am_sta 2 6 l st M := rfl
theorem xi_38_6 : am_do xs 38 6 l st M = am_lda (am_lg l 0) 7 l st M := rfl
theorem xi_38_7 : am_do xs 38 7 l st M = am_inv 1 1 (.retAddr 7) st M := rfl
theorem xt_38_7 : am_to 38 7 = 83 := rfl
theorem xi_38_10 : am_do xs 38 10 l st M = am_lda (am_lg l 0) 11 l st M := rfl
theorem xi_38_11 : am_do xs 38 11 l st M = am_a1 st fun o r => (am_gf (am_f M o) 7 6).bind fun w => am_nx 14 l (w :: r) M := rfl
theorem xi_38_14 : am_do xs 38 14 l st M = am_a1 st fun o r => (am_gf (am_f M o) 6 0).bind fun w => am_nx 17 l (w :: r) M := rfl
theorem xi_38_17 : am_do xs 38 17 l st M = am_i1 st fun x r => am_nx 18 (am_s1 l 3 (.int x)) r M := rfl
theorem xi_38_18 : am_do xs 38 18 l st M = am_lda (am_lg l 0) 19 l st M := rfl
theorem xi_38_19 : am_do xs 38 19 l st M = am_lda (am_lg l 2) 20 l st M := rfl
theorem xi_38_20 : am_do xs 38 20 l st M = am_put st 7 6 4 23 l M := rfl
theorem xi_38_23 : am_do xs 38 23 l st M = am_ldi (am_lg l 3) 24 l st M := rfl
theorem xi_38_24 : am_do xs 38 24 l st M = am_rti st 0 := rfl
theorem xi_39_0 : am_do xs 39 0 l st M = am_ldj (am_lg l 1) 1 l st M := rfl
theorem xi_39_1 : am_do xs 39 1 l st M = am_nx 4 l (.long 1000 :: st) M := rfl
theorem xi_39_4 : am_do xs 39 4 l st M = am_nx 7 l (.long 1000000000000 :: st) M := rfl
theorem xi_39_7 : am_do xs 39 7 l st M = am_inv 0 3 (.retAddr 7) st M := rfl
theorem xt_39_7 : am_to 39 7 = 80 := rfl
theorem xi_39_10 : am_do xs 39 10 l st M = am_lda (am_lg l 0) 11 l st M := rfl
theorem xi_39_11 : am_do xs 39 11 l st M = am_a1 st fun o r => (am_gf (am_f M o) 7 7).bind fun w => am_nx 14 l (w :: r) M := rfl
theorem xi_39_14 : am_do xs 39 14 l st M = am_aln xs st 15 l M := rfl
theorem xi_39_15 : am_do xs 39 15 l st M = am_i1 st fun x r => am_nx 16 (am_s1 l 3 (.int x)) r M := rfl
theorem xi_39_16 : am_do xs 39 16 l st M = am_ldi (am_lg l 3) 17 l st M := rfl
theorem xi_39_17 : am_do xs 39 17 l st M = am_i1 st fun x r => am_nx (if x ≤ 0 then 43 else 20) l r M := rfl
theorem xi_39_20 : am_do xs 39 20 l st M = am_ldj (am_lg l 1) 21 l st M := rfl
theorem xi_39_21 : am_do xs 39 21 l st M = am_lda (am_lg l 0) 22 l st M := rfl
theorem xi_39_22 : am_do xs 39 22 l st M = am_a1 st fun o r => (am_gf (am_f M o) 7 7).bind fun w => am_nx 25 l (w :: r) M := rfl
theorem xi_39_25 : am_do xs 39 25 l st M = am_ldi (am_lg l 3) 26 l st M := rfl
theorem xi_39_26 : am_do xs 39 26 l st M = am_nx 27 l (.int 1 :: st) M := rfl
theorem xi_39_27 : am_do xs 39 27 l st M = am_i2 st fun x y r => am_nx 28 l (.int (x - y) :: r) M := rfl
theorem xi_39_28 : am_do xs 39 28 l st M = am_ia st fun i o r => (am_aj (am_f M o) i).bind fun x => am_nx 29 l (.long x :: r) M := rfl
theorem xi_39_29 : am_do xs 39 29 l st M = am_j2 st fun x y r => am_nx 30 l (.int (lg_cmp x y) :: r) M := rfl
theorem xi_39_30 : am_do xs 39 30 l st M = am_i1 st fun x r => am_nx (if x < 0 then 43 else 33) l r M := rfl
theorem xi_39_33 : am_do xs 39 33 l st M = if am_wt st ≤ 8 then some (.inr (.inr (.inl 100))) else none := rfl
theorem xi_39_36 : am_do xs 39 36 l st M = am_dup st 37 l M := rfl
theorem xi_39_43 : am_do xs 39 43 l st M = am_ldi (am_lg l 3) 44 l st M := rfl
theorem xi_39_44 : am_do xs 39 44 l st M = am_nx 46 l (.int 6 :: st) M := rfl
theorem xi_39_46 : am_do xs 39 46 l st M = am_i2 st fun x y r => am_nx (if x < y then 59 else 49) l r M := rfl
theorem xi_39_49 : am_do xs 39 49 l st M = if am_wt st ≤ 8 then some (.inr (.inr (.inl 101))) else none := rfl
theorem xi_39_52 : am_do xs 39 52 l st M = am_dup st 53 l M := rfl
theorem xi_39_59 : am_do xs 39 59 l st M = am_lda (am_lg l 0) 60 l st M := rfl
theorem xi_39_60 : am_do xs 39 60 l st M = am_inv 1 1 (.retAddr 7) st M := rfl
theorem xt_39_60 : am_to 39 60 = 83 := rfl
theorem xi_39_63 : am_do xs 39 63 l st M = am_lda (am_lg l 0) 64 l st M := rfl
theorem xi_39_64 : am_do xs 39 64 l st M = am_a1 st fun o r => (am_gf (am_f M o) 7 7).bind fun w => am_nx 67 l (w :: r) M := rfl
theorem xi_39_67 : am_do xs 39 67 l st M = am_ldi (am_lg l 3) 68 l st M := rfl
theorem xi_39_68 : am_do xs 39 68 l st M = am_nx 69 l (.int 1 :: st) M := rfl
theorem xi_39_69 : am_do xs 39 69 l st M = am_i2 st fun x y r => am_nx 70 l (.int (x + y) :: r) M := rfl
theorem xi_39_70 : am_do xs 39 70 l st M = am_inv 0 2 (.retAddr 100) st M := rfl
theorem xt_39_70 : am_to 39 70 = 5 := rfl
theorem xi_39_73 : am_do xs 39 73 l st M = am_sta 4 75 l st M := rfl
theorem xi_39_75 : am_do xs 39 75 l st M = am_lda (am_lg l 4) 77 l st M := rfl
theorem xi_39_77 : am_do xs 39 77 l st M = am_ldi (am_lg l 3) 78 l st M := rfl
theorem xi_39_78 : am_do xs 39 78 l st M = am_ldj (am_lg l 1) 79 l st M := rfl
theorem xi_39_79 : am_do xs 39 79 l st M = am_via st fun w i o r => (am_wj (am_f M o) i w).bind fun e => am_nx 80 l r (am_set M o e) := rfl
theorem xi_39_80 : am_do xs 39 80 l st M = am_lda (am_lg l 0) 81 l st M := rfl
theorem xi_39_81 : am_do xs 39 81 l st M = am_lda (am_lg l 4) 83 l st M := rfl
theorem xi_39_83 : am_do xs 39 83 l st M = am_put st 7 7 4 86 l M := rfl
theorem xi_39_86 : am_do xs 39 86 l st M = am_lda (am_lg l 0) 87 l st M := rfl
theorem xi_39_87 : am_do xs 39 87 l st M = am_a1 st fun o r => (am_gf (am_f M o) 7 7).bind fun w => am_nx 90 l (w :: r) M := rfl
theorem xi_39_90 : am_do xs 39 90 l st M = am_aln xs st 91 l M := rfl
theorem xi_39_91 : am_do xs 39 91 l st M = am_rti st 0 := rfl
theorem xi_40_0 : am_do xs 40 0 l st M = am_lda (am_lg l 0) 1 l st M := rfl
theorem xi_40_1 : am_do xs 40 1 l st M = am_inv 1 1 (.retAddr 7) st M := rfl
theorem xt_40_1 : am_to 40 1 = 82 := rfl
theorem xi_40_4 : am_do xs 40 4 l st M = am_lda (am_lg l 0) 5 l st M := rfl
theorem xi_40_5 : am_do xs 40 5 l st M = am_inv 1 1 (.retAddr 7) st M := rfl
theorem xt_40_5 : am_to 40 5 = 83 := rfl
theorem xi_40_8 : am_do xs 40 8 l st M = am_lda (am_lg l 0) 9 l st M := rfl
theorem xi_40_9 : am_do xs 40 9 l st M = am_lda (am_lg l 0) 10 l st M := rfl
theorem xi_40_10 : am_do xs 40 10 l st M = am_a1 st fun o r => (am_gf (am_f M o) 7 7).bind fun w => am_nx 13 l (w :: r) M := rfl
theorem xi_40_13 : am_do xs 40 13 l st M = am_lda (am_lg l 0) 14 l st M := rfl
theorem xi_40_14 : am_do xs 40 14 l st M = am_a1 st fun o r => (am_gf (am_f M o) 7 7).bind fun w => am_nx 17 l (w :: r) M := rfl
theorem xi_40_17 : am_do xs 40 17 l st M = am_aln xs st 18 l M := rfl
theorem xi_40_18 : am_do xs 40 18 l st M = am_nx 19 l (.int 1 :: st) M := rfl
theorem xi_40_19 : am_do xs 40 19 l st M = am_i2 st fun x y r => am_nx 20 l (.int (x - y) :: r) M := rfl
theorem xi_40_20 : am_do xs 40 20 l st M = am_inv 0 2 (.retAddr 100) st M := rfl
theorem xt_40_20 : am_to 40 20 = 5 := rfl
theorem xi_40_23 : am_do xs 40 23 l st M = am_put st 7 7 4 26 l M := rfl
theorem xi_40_26 : am_do xs 40 26 l st M = am_lda (am_lg l 0) 27 l st M := rfl
theorem xi_40_27 : am_do xs 40 27 l st M = am_a1 st fun o r => (am_gf (am_f M o) 7 7).bind fun w => am_nx 30 l (w :: r) M := rfl
theorem xi_40_30 : am_do xs 40 30 l st M = am_aln xs st 31 l M := rfl
theorem xi_40_31 : am_do xs 40 31 l st M = am_rti st 0 := rfl
theorem xi_41_0 : am_do xs 41 0 l st M = am_lda (am_lg l 0) 1 l st M := rfl
theorem xi_41_1 : am_do xs 41 1 l st M = am_a1 st fun o r => (am_gf (am_f M o) 7 7).bind fun w => am_nx 4 l (w :: r) M := rfl
theorem xi_41_4 : am_do xs 41 4 l st M = am_aln xs st 5 l M := rfl
theorem xi_41_5 : am_do xs 41 5 l st M = am_rti st 0 := rfl
theorem xi_42_0 : am_do xs 42 0 l st M = am_lda (am_lg l 0) 1 l st M := rfl
theorem xi_42_1 : am_do xs 42 1 l st M = am_a1 st fun o r => (am_gf (am_f M o) 7 7).bind fun w => am_nx 4 l (w :: r) M := rfl
theorem xi_42_4 : am_do xs 42 4 l st M = am_ldi (am_lg l 1) 5 l st M := rfl
theorem xi_42_5 : am_do xs 42 5 l st M = am_inv 0 2 (.retAddr 7) st M := rfl
theorem xt_42_5 : am_to 42 5 = 81 := rfl
theorem xi_42_8 : am_do xs 42 8 l st M = am_lda (am_lg l 0) 9 l st M := rfl
theorem xi_42_9 : am_do xs 42 9 l st M = am_a1 st fun o r => (am_gf (am_f M o) 7 7).bind fun w => am_nx 12 l (w :: r) M := rfl
theorem xi_42_12 : am_do xs 42 12 l st M = am_ldi (am_lg l 1) 13 l st M := rfl
theorem xi_42_13 : am_do xs 42 13 l st M = am_ia st fun i o r => (am_aj (am_f M o) i).bind fun x => am_nx 14 l (.long x :: r) M := rfl
theorem xi_42_14 : am_do xs 42 14 l st M = am_rtj st := rfl
theorem xi_43_0 : am_do xs 43 0 l st M = am_ldi (am_lg l 1) 1 l st M := rfl
theorem xi_43_1 : am_do xs 43 1 l st M = am_i1 st fun x r => am_nx 2 l (.long x.toInt64 :: r) M := rfl
theorem xi_43_2 : am_do xs 43 2 l st M = am_nx 3 l (.long 0 :: st) M := rfl
theorem xi_43_3 : am_do xs 43 3 l st M = am_nx 6 l (.long 30000 :: st) M := rfl
theorem xi_43_6 : am_do xs 43 6 l st M = am_inv 0 3 (.retAddr 7) st M := rfl
theorem xt_43_6 : am_to 43 6 = 80 := rfl
theorem xi_43_9 : am_do xs 43 9 l st M = am_lda (am_lg l 0) 10 l st M := rfl
theorem xi_43_10 : am_do xs 43 10 l st M = am_a1 st fun o r => (am_gf (am_f M o) 7 9).bind fun w => am_nx 13 l (w :: r) M := rfl
theorem xi_43_13 : am_do xs 43 13 l st M = am_a1 st fun o r => (am_gf (am_f M o) 2 1).bind fun w => am_nx 16 l (w :: r) M := rfl
theorem xi_43_16 : am_do xs 43 16 l st M = am_i1 st fun x r => am_nx 17 (am_s1 l 2 (.int x)) r M := rfl
theorem xi_43_17 : am_do xs 43 17 l st M = am_lda (am_lg l 0) 18 l st M := rfl
theorem xi_43_18 : am_do xs 43 18 l st M = am_a1 st fun o r => (am_gf (am_f M o) 7 9).bind fun w => am_nx 21 l (w :: r) M := rfl
theorem xi_43_21 : am_do xs 43 21 l st M = am_ldi (am_lg l 1) 22 l st M := rfl
theorem xi_43_22 : am_do xs 43 22 l st M = am_put st 2 1 0 25 l M := rfl
theorem xi_43_25 : am_do xs 43 25 l st M = am_ldi (am_lg l 2) 26 l st M := rfl
theorem xi_43_26 : am_do xs 43 26 l st M = am_rti st 0 := rfl
theorem xi_44_0 : am_do xs 44 0 l st M = am_lda (am_lg l 0) 1 l st M := rfl
theorem xi_44_1 : am_do xs 44 1 l st M = am_a1 st fun o r => (am_gf (am_f M o) 7 9).bind fun w => am_nx 4 l (w :: r) M := rfl
theorem xi_44_4 : am_do xs 44 4 l st M = am_a1 st fun o r => (am_gf (am_f M o) 2 0).bind fun w => am_nx 7 l (w :: r) M := rfl
theorem xi_44_7 : am_do xs 44 7 l st M = am_i1 st fun x r => am_nx 8 (am_s1 l 2 (.int x)) r M := rfl
theorem xi_44_8 : am_do xs 44 8 l st M = am_lda (am_lg l 0) 9 l st M := rfl
theorem xi_44_9 : am_do xs 44 9 l st M = am_a1 st fun o r => (am_gf (am_f M o) 7 9).bind fun w => am_nx 12 l (w :: r) M := rfl
theorem xi_44_12 : am_do xs 44 12 l st M = am_ldi (am_lg l 1) 13 l st M := rfl
theorem xi_44_13 : am_do xs 44 13 l st M = am_put st 2 0 0 16 l M := rfl
theorem xi_44_16 : am_do xs 44 16 l st M = am_ldi (am_lg l 2) 17 l st M := rfl
theorem xi_44_17 : am_do xs 44 17 l st M = am_rti st 0 := rfl
theorem xi_45_0 : am_do xs 45 0 l st M = am_ldi (am_lg l 1) 1 l st M := rfl
theorem xi_45_1 : am_do xs 45 1 l st M = am_i1 st fun x r => am_nx 2 l (.long x.toInt64 :: r) M := rfl
theorem xi_45_2 : am_do xs 45 2 l st M = am_nx 3 l (.long 1 :: st) M := rfl
theorem xi_45_3 : am_do xs 45 3 l st M = am_nx 6 l (.long 10000 :: st) M := rfl
theorem xi_45_6 : am_do xs 45 6 l st M = am_inv 0 3 (.retAddr 7) st M := rfl
theorem xt_45_6 : am_to 45 6 = 80 := rfl
theorem xi_45_9 : am_do xs 45 9 l st M = am_lda (am_lg l 0) 10 l st M := rfl
theorem xi_45_10 : am_do xs 45 10 l st M = am_inv 1 1 (.retAddr 7) st M := rfl
theorem xt_45_10 : am_to 45 10 = 83 := rfl
theorem xi_45_13 : am_do xs 45 13 l st M = am_lda (am_lg l 0) 14 l st M := rfl
theorem xi_45_14 : am_do xs 45 14 l st M = am_a1 st fun o r => (am_gf (am_f M o) 7 8).bind fun w => am_nx 17 l (w :: r) M := rfl
theorem xi_45_17 : am_do xs 45 17 l st M = am_i1 st fun x r => am_nx 18 (am_s1 l 2 (.int x)) r M := rfl
theorem xi_45_18 : am_do xs 45 18 l st M = am_lda (am_lg l 0) 19 l st M := rfl
theorem xi_45_19 : am_do xs 45 19 l st M = am_ldi (am_lg l 1) 20 l st M := rfl
theorem xi_45_20 : am_do xs 45 20 l st M = am_put st 7 8 0 23 l M := rfl
theorem xi_45_23 : am_do xs 45 23 l st M = am_ldi (am_lg l 2) 24 l st M := rfl
theorem xi_45_24 : am_do xs 45 24 l st M = am_rti st 0 := rfl
theorem xi_46_0 : am_do xs 46 0 l st M = am_ldi (am_lg l 1) 1 l st M := rfl
theorem xi_46_1 : am_do xs 46 1 l st M = am_i1 st fun x r => am_nx 2 l (.long x.toInt64 :: r) M := rfl
theorem xi_46_2 : am_do xs 46 2 l st M = am_nx 3 l (.long 1 :: st) M := rfl
theorem xi_46_3 : am_do xs 46 3 l st M = am_nx 6 l (.long 20 :: st) M := rfl
theorem xi_46_6 : am_do xs 46 6 l st M = am_inv 0 3 (.retAddr 7) st M := rfl
theorem xt_46_6 : am_to 46 6 = 80 := rfl
theorem xi_46_9 : am_do xs 46 9 l st M = am_lda (am_lg l 0) 10 l st M := rfl
theorem xi_46_10 : am_do xs 46 10 l st M = am_inv 1 1 (.retAddr 7) st M := rfl
theorem xt_46_10 : am_to 46 10 = 82 := rfl
theorem xi_46_13 : am_do xs 46 13 l st M = am_lda (am_lg l 0) 14 l st M := rfl
theorem xi_46_14 : am_do xs 46 14 l st M = am_inv 1 1 (.retAddr 7) st M := rfl
theorem xt_46_14 : am_to 46 14 = 83 := rfl
theorem xi_46_17 : am_do xs 46 17 l st M = am_nx 20 l (.ref M.1 :: st) (am_new M (am_nf 5).length (.inr (5, am_nf 5))) := rfl
theorem xi_46_20 : am_do xs 46 20 l st M = am_dup st 21 l M := rfl
theorem xi_46_21 : am_do xs 46 21 l st M = am_lda (am_lg l 0) 22 l st M := rfl
theorem xi_46_22 : am_do xs 46 22 l st M = am_a1 st fun o r => (am_gf (am_f M o) 7 7).bind fun w => am_nx 25 l (w :: r) M := rfl
theorem xi_46_25 : am_do xs 46 25 l st M = am_inv 2 2 (.retAddr 5) st M := rfl
theorem xt_46_25 : am_to 46 25 = 21 := rfl
theorem xi_46_28 : am_do xs 46 28 l st M = am_sta 2 29 l st M := rfl
theorem xi_46_29 : am_do xs 46 29 l st M = am_nx 30 l (.long 0 :: st) M := rfl
theorem xi_46_30 : am_do xs 46 30 l st M = am_j1 st fun x r => am_nx 31 (am_s2 l 3 (.long x)) r M := rfl
theorem xi_46_31 : am_do xs 46 31 l st M = am_nx 32 l (.int 0 :: st) M := rfl
theorem xi_46_32 : am_do xs 46 32 l st M = am_i1 st fun x r => am_nx 34 (am_s1 l 5 (.int x)) r M := rfl
theorem xi_46_34 : am_do xs 46 34 l st M = am_ldi (am_lg l 5) 36 l st M := rfl
theorem xi_46_36 : am_do xs 46 36 l st M = am_ldi (am_lg l 1) 37 l st M := rfl
theorem xi_46_37 : am_do xs 46 37 l st M = am_i2 st fun x y r => am_nx (if y ≤ x then 68 else 40) l r M := rfl
theorem xi_46_40 : am_do xs 46 40 l st M = am_lda (am_lg l 2) 41 l st M := rfl
theorem xi_46_41 : am_do xs 46 41 l st M = am_lda (am_lg l 0) 42 l st M := rfl
theorem xi_46_42 : am_do xs 46 42 l st M = am_a1 st fun o r => (am_gf (am_f M o) 7 6).bind fun w => am_nx 45 l (w :: r) M := rfl
theorem xi_46_45 : am_do xs 46 45 l st M = am_a1 st fun o r => (am_gf (am_f M o) 6 1).bind fun w => am_nx 48 l (w :: r) M := rfl
theorem xi_46_48 : am_do xs 46 48 l st M = am_lda (am_lg l 0) 49 l st M := rfl
theorem xi_46_49 : am_do xs 46 49 l st M = am_a1 st fun o r => (am_gf (am_f M o) 7 9).bind fun w => am_nx 52 l (w :: r) M := rfl
theorem xi_46_52 : am_do xs 46 52 l st M = am_inv 1 3 (.retAddr 5) st M := rfl
theorem xt_46_52 : am_to 46 52 = 22 := rfl
theorem xi_46_55 : am_do xs 46 55 l st M = am_ldj (am_lg l 3) 56 l st M := rfl
theorem xi_46_56 : am_do xs 46 56 l st M = am_lda (am_lg l 2) 57 l st M := rfl
theorem xi_46_57 : am_do xs 46 57 l st M = am_inv 1 1 (.retAddr 5) st M := rfl
theorem xt_46_57 : am_to 46 57 = 23 := rfl
theorem xi_46_60 : am_do xs 46 60 l st M = am_j2 st fun x y r => am_nx 61 l (.long (x + y) :: r) M := rfl
theorem xi_46_61 : am_do xs 46 61 l st M = am_j1 st fun x r => am_nx 62 (am_s2 l 3 (.long x)) r M := rfl
theorem xi_46_62 : am_do xs 46 62 l st M = am_inc (am_lg l 5) 5 1 65 l st M := rfl
theorem xi_46_65 : am_do xs 46 65 l st M = am_nx 34 l st M := rfl
theorem xi_46_68 : am_do xs 46 68 l st M = am_lda (am_lg l 0) 69 l st M := rfl
theorem xi_46_69 : am_do xs 46 69 l st M = am_lda (am_lg l 0) 70 l st M := rfl
theorem xi_46_70 : am_do xs 46 70 l st M = am_a1 st fun o r => (am_gf (am_f M o) 7 6).bind fun w => am_nx 73 l (w :: r) M := rfl
theorem xi_46_73 : am_do xs 46 73 l st M = am_inv 1 2 (.retAddr 7) st M := rfl
theorem xt_46_73 : am_to 46 73 = 90 := rfl
theorem xi_46_76 : am_do xs 46 76 l st M = am_lda (am_lg l 0) 77 l st M := rfl
theorem xi_46_77 : am_do xs 46 77 l st M = am_a1 st fun o r => (am_gf (am_f M o) 7 6).bind fun w => am_nx 80 l (w :: r) M := rfl
theorem xi_46_80 : am_do xs 46 80 l st M = am_ldj (am_lg l 3) 81 l st M := rfl
theorem xi_46_81 : am_do xs 46 81 l st M = am_ldi (am_lg l 1) 82 l st M := rfl
theorem xi_46_82 : am_do xs 46 82 l st M = am_i1 st fun x r => am_nx 83 l (.long x.toInt64 :: r) M := rfl
theorem xi_46_83 : am_do xs 46 83 l st M = am_inv 0 2 (.retAddr 7) st M := rfl
theorem xt_46_83 : am_to 46 83 = 88 := rfl
theorem xi_46_86 : am_do xs 46 86 l st M = am_put st 6 2 1 89 l M := rfl
theorem xi_46_89 : am_do xs 46 89 l st M = am_lda (am_lg l 0) 90 l st M := rfl
theorem xi_46_90 : am_do xs 46 90 l st M = am_a1 st fun o r => (am_gf (am_f M o) 7 6).bind fun w => am_nx 93 l (w :: r) M := rfl
theorem xi_46_93 : am_do xs 46 93 l st M = am_a1 st fun o r => (am_gf (am_f M o) 6 2).bind fun w => am_nx 96 l (w :: r) M := rfl
theorem xi_46_96 : am_do xs 46 96 l st M = am_rtj st := rfl
theorem xi_47_0 : am_do xs 47 0 l st M = am_lda (am_lg l 0) 1 l st M := rfl
theorem xi_47_1 : am_do xs 47 1 l st M = am_ldi (am_lg l 1) 2 l st M := rfl
theorem xi_47_2 : am_do xs 47 2 l st M = am_inv 1 2 (.retAddr 7) st M := rfl
theorem xt_47_2 : am_to 47 2 = 85 := rfl
theorem xi_47_5 : am_do xs 47 5 l st M = am_sta 2 6 l st M := rfl
theorem xi_47_6 : am_do xs 47 6 l st M = am_lda (am_lg l 2) 7 l st M := rfl
theorem xi_47_7 : am_do xs 47 7 l st M = am_a1 st fun o r => (am_gf (am_f M o) 6 3).bind fun w => am_nx 10 l (w :: r) M := rfl
theorem xi_47_10 : am_do xs 47 10 l st M = am_i1 st fun x r => am_nx (if ¬ x = 0 then 23 else 13) l r M := rfl
theorem xi_47_13 : am_do xs 47 13 l st M = if am_wt st ≤ 8 then some (.inr (.inr (.inl 104))) else none := rfl
theorem xi_47_16 : am_do xs 47 16 l st M = am_dup st 17 l M := rfl
theorem xi_47_23 : am_do xs 47 23 l st M = am_lda (am_lg l 2) 24 l st M := rfl
theorem xi_47_24 : am_do xs 47 24 l st M = am_a1 st fun o r => (am_gf (am_f M o) 6 2).bind fun w => am_nx 27 l (w :: r) M := rfl
theorem xi_47_27 : am_do xs 47 27 l st M = am_rtj st := rfl
theorem xi_48_0 : am_do xs 48 0 l st M = am_ldi (am_lg l 1) 1 l st M := rfl
theorem xi_48_1 : am_do xs 48 1 l st M = am_i1 st fun x r => am_nx (if x < 0 then 22 else 4) l r M := rfl
theorem xi_48_4 : am_do xs 48 4 l st M = am_ldi (am_lg l 1) 5 l st M := rfl
theorem xi_48_5 : am_do xs 48 5 l st M = am_lda (am_lg l 0) 6 l st M := rfl
theorem xi_48_6 : am_do xs 48 6 l st M = am_a1 st fun o r => (am_gf (am_f M o) 7 4).bind fun w => am_nx 9 l (w :: r) M := rfl
theorem xi_48_9 : am_do xs 48 9 l st M = am_aln xs st 10 l M := rfl
theorem xi_48_10 : am_do xs 48 10 l st M = am_i2 st fun x y r => am_nx (if y ≤ x then 22 else 13) l r M := rfl
theorem xi_48_13 : am_do xs 48 13 l st M = am_lda (am_lg l 0) 14 l st M := rfl
theorem xi_48_14 : am_do xs 48 14 l st M = am_a1 st fun o r => (am_gf (am_f M o) 7 4).bind fun w => am_nx 17 l (w :: r) M := rfl
theorem xi_48_17 : am_do xs 48 17 l st M = am_ldi (am_lg l 1) 18 l st M := rfl
theorem xi_48_18 : am_do xs 48 18 l st M = am_ia st fun i o r => (am_aa (am_f M o) i).bind fun w => am_nx 19 l (w :: r) M := rfl
theorem xi_48_19 : am_do xs 48 19 l st M = am_nul st 22 32 l M := rfl
theorem xi_48_22 : am_do xs 48 22 l st M = if am_wt st ≤ 8 then some (.inr (.inr (.inl 102))) else none := rfl
theorem xi_48_25 : am_do xs 48 25 l st M = am_dup st 26 l M := rfl
theorem xi_48_32 : am_do xs 48 32 l st M = am_lda (am_lg l 0) 33 l st M := rfl
theorem xi_48_33 : am_do xs 48 33 l st M = am_a1 st fun o r => (am_gf (am_f M o) 7 4).bind fun w => am_nx 36 l (w :: r) M := rfl
theorem xi_48_36 : am_do xs 48 36 l st M = am_ldi (am_lg l 1) 37 l st M := rfl
theorem xi_48_37 : am_do xs 48 37 l st M = am_ia st fun i o r => (am_aa (am_f M o) i).bind fun w => am_nx 38 l (w :: r) M := rfl
theorem xi_48_38 : am_do xs 48 38 l st M = am_a1 st fun o r => (am_gf (am_f M o) 6 0).bind fun w => am_nx 41 l (w :: r) M := rfl
theorem xi_48_41 : am_do xs 48 41 l st M = am_rti st 0 := rfl
theorem xi_49_0 : am_do xs 49 0 l st M = am_lda (am_lg l 0) 1 l st M := rfl
theorem xi_49_1 : am_do xs 49 1 l st M = am_inv 1 1 (.retAddr 7) st M := rfl
theorem xt_49_1 : am_to 49 1 = 83 := rfl
theorem xi_49_4 : am_do xs 49 4 l st M = am_lda (am_lg l 0) 5 l st M := rfl
theorem xi_49_5 : am_do xs 49 5 l st M = am_inv 1 1 (.retAddr 7) st M := rfl
theorem xt_49_5 : am_to 49 5 = 82 := rfl
theorem xi_49_8 : am_do xs 49 8 l st M = am_lda (am_lg l 0) 9 l st M := rfl
theorem xi_49_9 : am_do xs 49 9 l st M = am_a1 st fun o r => (am_gf (am_f M o) 7 11).bind fun w => am_nx 12 l (w :: r) M := rfl
theorem xi_49_12 : am_do xs 49 12 l st M = am_lda (am_lg l 0) 13 l st M := rfl
theorem xi_49_13 : am_do xs 49 13 l st M = am_a1 st fun o r => (am_gf (am_f M o) 7 10).bind fun w => am_nx 16 l (w :: r) M := rfl
theorem xi_49_16 : am_do xs 49 16 l st M = am_aln xs st 17 l M := rfl
theorem xi_49_17 : am_do xs 49 17 l st M = am_i2 st fun x y r => am_nx (if x < y then 30 else 20) l r M := rfl
theorem xi_49_20 : am_do xs 49 20 l st M = if am_wt st ≤ 8 then some (.inr (.inr (.inl 101))) else none := rfl
theorem xi_49_23 : am_do xs 49 23 l st M = am_dup st 24 l M := rfl
theorem xi_49_30 : am_do xs 49 30 l st M = am_nx 33 l (.ref M.1 :: st) (am_new M (am_nf 4).length (.inr (4, am_nf 4))) := rfl
theorem xi_49_33 : am_do xs 49 33 l st M = am_dup st 34 l M := rfl
theorem xi_49_34 : am_do xs 49 34 l st M = am_lda (am_lg l 0) 35 l st M := rfl
theorem xi_49_35 : am_do xs 49 35 l st M = am_a1 st fun o r => (am_gf (am_f M o) 7 11).bind fun w => am_nx 38 l (w :: r) M := rfl
theorem xi_49_38 : am_do xs 49 38 l st M = am_lda (am_lg l 0) 39 l st M := rfl
theorem xi_49_39 : am_do xs 49 39 l st M = am_a1 st fun o r => (am_gf (am_f M o) 7 6).bind fun w => am_nx 42 l (w :: r) M := rfl
theorem xi_49_42 : am_do xs 49 42 l st M = am_lda (am_lg l 0) 43 l st M := rfl
theorem xi_49_43 : am_do xs 49 43 l st M = am_a1 st fun o r => (am_gf (am_f M o) 7 7).bind fun w => am_nx 46 l (w :: r) M := rfl
theorem xi_49_46 : am_do xs 49 46 l st M = am_lda (am_lg l 0) 47 l st M := rfl
theorem xi_49_47 : am_do xs 49 47 l st M = am_a1 st fun o r => (am_gf (am_f M o) 7 8).bind fun w => am_nx 50 l (w :: r) M := rfl
theorem xi_49_50 : am_do xs 49 50 l st M = am_inv 2 5 (.retAddr 4) st M := rfl
theorem xt_49_50 : am_to 49 50 = 18 := rfl
theorem xi_49_53 : am_do xs 49 53 l st M = am_sta 1 54 l st M := rfl
theorem xi_49_54 : am_do xs 49 54 l st M = am_lda (am_lg l 1) 55 l st M := rfl
theorem xi_49_55 : am_do xs 49 55 l st M = am_lda (am_lg l 0) 56 l st M := rfl
theorem xi_49_56 : am_do xs 49 56 l st M = am_a1 st fun o r => (am_gf (am_f M o) 7 0).bind fun w => am_nx 59 l (w :: r) M := rfl
theorem xi_49_59 : am_do xs 49 59 l st M = am_a1 st fun o r => (am_gf (am_f M o) 1 0).bind fun w => am_nx 62 l (w :: r) M := rfl
theorem xi_49_62 : am_do xs 49 62 l st M = am_lda (am_lg l 0) 63 l st M := rfl
theorem xi_49_63 : am_do xs 49 63 l st M = am_a1 st fun o r => (am_gf (am_f M o) 7 8).bind fun w => am_nx 66 l (w :: r) M := rfl
theorem xi_49_66 : am_do xs 49 66 l st M = am_i1 st fun x r => am_nx 67 l (.long x.toInt64 :: r) M := rfl
theorem xi_49_67 : am_do xs 49 67 l st M = am_inv 0 2 (.retAddr 7) st M := rfl
theorem xt_49_67 : am_to 49 67 = 88 := rfl
theorem xi_49_70 : am_do xs 49 70 l st M = am_put st 4 5 1 73 l M := rfl
theorem xi_49_73 : am_do xs 49 73 l st M = am_lda (am_lg l 0) 74 l st M := rfl
theorem xi_49_74 : am_do xs 49 74 l st M = am_a1 st fun o r => (am_gf (am_f M o) 7 10).bind fun w => am_nx 77 l (w :: r) M := rfl
theorem xi_49_77 : am_do xs 49 77 l st M = am_lda (am_lg l 0) 78 l st M := rfl
theorem xi_49_78 : am_do xs 49 78 l st M = am_a1 st fun o r => (am_gf (am_f M o) 7 11).bind fun w => am_nx 81 l (w :: r) M := rfl
theorem xi_49_81 : am_do xs 49 81 l st M = am_lda (am_lg l 1) 82 l st M := rfl
theorem xi_49_82 : am_do xs 49 82 l st M = am_aas st 83 l M := rfl
theorem xi_49_83 : am_do xs 49 83 l st M = am_lda (am_lg l 0) 84 l st M := rfl
theorem xi_49_84 : am_do xs 49 84 l st M = am_dup st 85 l M := rfl
theorem xi_49_85 : am_do xs 49 85 l st M = am_a1 st fun o r => (am_gf (am_f M o) 7 11).bind fun w => am_nx 88 l (w :: r) M := rfl
theorem xi_49_88 : am_do xs 49 88 l st M = am_nx 89 l (.int 1 :: st) M := rfl
theorem xi_49_89 : am_do xs 49 89 l st M = am_i2 st fun x y r => am_nx 90 l (.int (x + y) :: r) M := rfl
theorem xi_49_90 : am_do xs 49 90 l st M = am_put st 7 11 0 93 l M := rfl
theorem xi_49_93 : am_do xs 49 93 l st M = am_lda (am_lg l 0) 94 l st M := rfl
theorem xi_49_94 : am_do xs 49 94 l st M = am_lda (am_lg l 1) 95 l st M := rfl
theorem xi_49_95 : am_do xs 49 95 l st M = am_put st 7 12 4 98 l M := rfl
theorem xi_49_98 : am_do xs 49 98 l st M = am_lda (am_lg l 1) 99 l st M := rfl
theorem xi_49_99 : am_do xs 49 99 l st M = am_a1 st fun o r => (am_gf (am_f M o) 4 0).bind fun w => am_nx 102 l (w :: r) M := rfl
theorem xi_49_102 : am_do xs 49 102 l st M = am_rti st 0 := rfl
theorem xi_50_0 : am_do xs 50 0 l st M = am_lda (am_lg l 0) 1 l st M := rfl
theorem xi_50_1 : am_do xs 50 1 l st M = am_inv 1 1 (.retAddr 7) st M := rfl
theorem xt_50_1 : am_to 50 1 = 84 := rfl
theorem xi_50_4 : am_do xs 50 4 l st M = am_sta 1 5 l st M := rfl
theorem xi_50_5 : am_do xs 50 5 l st M = am_lda (am_lg l 0) 6 l st M := rfl
theorem xi_50_6 : am_do xs 50 6 l st M = am_nx 7 l (.null :: st) M := rfl
theorem xi_50_7 : am_do xs 50 7 l st M = am_put st 7 12 4 10 l M := rfl
theorem xi_50_10 : am_do xs 50 10 l st M = am_lda (am_lg l 1) 11 l st M := rfl
theorem xi_50_11 : am_do xs 50 11 l st M = am_a1 st fun o r => (am_gf (am_f M o) 4 9).bind fun w => am_nx 14 l (w :: r) M := rfl
theorem xi_50_14 : am_do xs 50 14 l st M = am_rti st 0 := rfl
theorem xi_51_0 : am_do xs 51 0 l st M = am_lda (am_lg l 0) 1 l st M := rfl
theorem xi_51_1 : am_do xs 51 1 l st M = am_inv 1 1 (.retAddr 7) st M := rfl
theorem xt_51_1 : am_to 51 1 = 84 := rfl
theorem xi_51_4 : am_do xs 51 4 l st M = am_sta 1 5 l st M := rfl
theorem xi_51_5 : am_do xs 51 5 l st M = am_lda (am_lg l 0) 6 l st M := rfl
theorem xi_51_6 : am_do xs 51 6 l st M = am_a1 st fun o r => (am_gf (am_f M o) 7 14).bind fun w => am_nx 9 l (w :: r) M := rfl
theorem xi_51_9 : am_do xs 51 9 l st M = am_lda (am_lg l 0) 10 l st M := rfl
theorem xi_51_10 : am_do xs 51 10 l st M = am_a1 st fun o r => (am_gf (am_f M o) 7 13).bind fun w => am_nx 13 l (w :: r) M := rfl
theorem xi_51_13 : am_do xs 51 13 l st M = am_aln xs st 14 l M := rfl
theorem xi_51_14 : am_do xs 51 14 l st M = am_i2 st fun x y r => am_nx (if x < y then 27 else 17) l r M := rfl
theorem xi_51_17 : am_do xs 51 17 l st M = if am_wt st ≤ 8 then some (.inr (.inr (.inl 101))) else none := rfl
theorem xi_51_20 : am_do xs 51 20 l st M = am_dup st 21 l M := rfl
theorem xi_51_27 : am_do xs 51 27 l st M = am_nx 30 l (.ref M.1 :: st) (am_new M (am_nf 3).length (.inr (3, am_nf 3))) := rfl
theorem xi_51_30 : am_do xs 51 30 l st M = am_dup st 31 l M := rfl
theorem xi_51_31 : am_do xs 51 31 l st M = am_lda (am_lg l 1) 32 l st M := rfl
theorem xi_51_32 : am_do xs 51 32 l st M = am_lda (am_lg l 0) 33 l st M := rfl
theorem xi_51_33 : am_do xs 51 33 l st M = am_a1 st fun o r => (am_gf (am_f M o) 7 2).bind fun w => am_nx 36 l (w :: r) M := rfl
theorem xi_51_36 : am_do xs 51 36 l st M = am_lda (am_lg l 0) 37 l st M := rfl
theorem xi_51_37 : am_do xs 51 37 l st M = am_lda (am_lg l 1) 38 l st M := rfl
theorem xi_51_38 : am_do xs 51 38 l st M = am_inv 1 2 (.retAddr 7) st M := rfl
theorem xt_51_38 : am_to 51 38 = 91 := rfl
theorem xi_51_41 : am_do xs 51 41 l st M = am_inv 2 4 (.retAddr 3) st M := rfl
theorem xt_51_41 : am_to 51 41 = 17 := rfl
theorem xi_51_44 : am_do xs 51 44 l st M = am_sta 2 45 l st M := rfl
theorem xi_51_45 : am_do xs 51 45 l st M = am_lda (am_lg l 2) 46 l st M := rfl
theorem xi_51_46 : am_do xs 51 46 l st M = am_a1 st fun o r => (am_gf (am_f M o) 3 5).bind fun w => am_nx 49 l (w :: r) M := rfl
theorem xi_51_49 : am_do xs 51 49 l st M = am_lda (am_lg l 0) 50 l st M := rfl
theorem xi_51_50 : am_do xs 51 50 l st M = am_a1 st fun o r => (am_gf (am_f M o) 7 0).bind fun w => am_nx 53 l (w :: r) M := rfl
theorem xi_51_53 : am_do xs 51 53 l st M = am_a1 st fun o r => (am_gf (am_f M o) 1 0).bind fun w => am_nx 56 l (w :: r) M := rfl
theorem xi_51_56 : am_do xs 51 56 l st M = am_lda (am_lg l 1) 57 l st M := rfl
theorem xi_51_57 : am_do xs 51 57 l st M = am_a1 st fun o r => (am_gf (am_f M o) 4 1).bind fun w => am_nx 60 l (w :: r) M := rfl
theorem xi_51_60 : am_do xs 51 60 l st M = am_a1 st fun o r => (am_gf (am_f M o) 6 1).bind fun w => am_nx 63 l (w :: r) M := rfl
theorem xi_51_63 : am_do xs 51 63 l st M = am_j2 st fun x y r => am_nx 64 l (.long (x + y) :: r) M := rfl
theorem xi_51_64 : am_do xs 51 64 l st M = am_lda (am_lg l 0) 65 l st M := rfl
theorem xi_51_65 : am_do xs 51 65 l st M = am_a1 st fun o r => (am_gf (am_f M o) 7 9).bind fun w => am_nx 68 l (w :: r) M := rfl
theorem xi_51_68 : am_do xs 51 68 l st M = am_inv 1 3 (.retAddr 5) st M := rfl
theorem xt_51_68 : am_to 51 68 = 22 := rfl
theorem xi_51_71 : am_do xs 51 71 l st M = am_lda (am_lg l 1) 72 l st M := rfl
theorem xi_51_72 : am_do xs 51 72 l st M = am_lda (am_lg l 2) 73 l st M := rfl
theorem xi_51_73 : am_do xs 51 73 l st M = am_inv 1 2 (.retAddr 4) st M := rfl
theorem xt_51_73 : am_to 51 73 = 19 := rfl
theorem xi_51_76 : am_do xs 51 76 l st M = am_lda (am_lg l 0) 77 l st M := rfl
theorem xi_51_77 : am_do xs 51 77 l st M = am_a1 st fun o r => (am_gf (am_f M o) 7 13).bind fun w => am_nx 80 l (w :: r) M := rfl
theorem xi_51_80 : am_do xs 51 80 l st M = am_lda (am_lg l 0) 81 l st M := rfl
theorem xi_51_81 : am_do xs 51 81 l st M = am_a1 st fun o r => (am_gf (am_f M o) 7 14).bind fun w => am_nx 84 l (w :: r) M := rfl
theorem xi_51_84 : am_do xs 51 84 l st M = am_lda (am_lg l 2) 85 l st M := rfl
theorem xi_51_85 : am_do xs 51 85 l st M = am_aas st 86 l M := rfl
theorem xi_51_86 : am_do xs 51 86 l st M = am_lda (am_lg l 0) 87 l st M := rfl
theorem xi_51_87 : am_do xs 51 87 l st M = am_dup st 88 l M := rfl
theorem xi_51_88 : am_do xs 51 88 l st M = am_a1 st fun o r => (am_gf (am_f M o) 7 14).bind fun w => am_nx 91 l (w :: r) M := rfl
theorem xi_51_91 : am_do xs 51 91 l st M = am_nx 92 l (.int 1 :: st) M := rfl
theorem xi_51_92 : am_do xs 51 92 l st M = am_i2 st fun x y r => am_nx 93 l (.int (x + y) :: r) M := rfl
theorem xi_51_93 : am_do xs 51 93 l st M = am_put st 7 14 0 96 l M := rfl
theorem xi_51_96 : am_do xs 51 96 l st M = am_lda (am_lg l 0) 97 l st M := rfl
theorem xi_51_97 : am_do xs 51 97 l st M = am_a1 st fun o r => (am_gf (am_f M o) 7 14).bind fun w => am_nx 100 l (w :: r) M := rfl
theorem xi_51_100 : am_do xs 51 100 l st M = am_nx 101 l (.int 1 :: st) M := rfl
theorem xi_51_101 : am_do xs 51 101 l st M = am_i2 st fun x y r => am_nx 102 l (.int (x - y) :: r) M := rfl
theorem xi_51_102 : am_do xs 51 102 l st M = am_rti st 0 := rfl
theorem xi_52_0 : am_do xs 52 0 l st M = am_ldi (am_lg l 1) 1 l st M := rfl
theorem xi_52_1 : am_do xs 52 1 l st M = am_i1 st fun x r => am_nx 2 l (.long x.toInt64 :: r) M := rfl
theorem xi_52_2 : am_do xs 52 2 l st M = am_nx 5 l (.long (-1000) :: st) M := rfl
theorem xi_52_5 : am_do xs 52 5 l st M = am_nx 8 l (.long 1000 :: st) M := rfl
theorem xi_52_8 : am_do xs 52 8 l st M = am_inv 0 3 (.retAddr 7) st M := rfl
theorem xt_52_8 : am_to 52 8 = 80 := rfl
theorem xi_52_11 : am_do xs 52 11 l st M = am_lda (am_lg l 0) 12 l st M := rfl
theorem xi_52_12 : am_do xs 52 12 l st M = am_inv 1 1 (.retAddr 7) st M := rfl
theorem xt_52_12 : am_to 52 12 = 84 := rfl
theorem xi_52_15 : am_do xs 52 15 l st M = am_sta 2 16 l st M := rfl
theorem xi_52_16 : am_do xs 52 16 l st M = am_lda (am_lg l 2) 17 l st M := rfl
theorem xi_52_17 : am_do xs 52 17 l st M = am_dup st 18 l M := rfl
theorem xi_52_18 : am_do xs 52 18 l st M = am_a1 st fun o r => (am_gf (am_f M o) 4 6).bind fun w => am_nx 21 l (w :: r) M := rfl
theorem xi_52_21 : am_do xs 52 21 l st M = am_ldi (am_lg l 1) 22 l st M := rfl
theorem xi_52_22 : am_do xs 52 22 l st M = am_i1 st fun x r => am_nx 23 l (.long x.toInt64 :: r) M := rfl
theorem xi_52_23 : am_do xs 52 23 l st M = am_j2 st fun x y r => am_nx 24 l (.long (x + y) :: r) M := rfl
theorem xi_52_24 : am_do xs 52 24 l st M = am_put st 4 6 1 27 l M := rfl
theorem xi_52_27 : am_do xs 52 27 l st M = am_lda (am_lg l 2) 28 l st M := rfl
theorem xi_52_28 : am_do xs 52 28 l st M = am_a1 st fun o r => (am_gf (am_f M o) 4 6).bind fun w => am_nx 31 l (w :: r) M := rfl
theorem xi_52_31 : am_do xs 52 31 l st M = am_rtj st := rfl
theorem xi_53_0 : am_do xs 53 0 l st M = am_lda (am_lg l 0) 1 l st M := rfl
theorem xi_53_1 : am_do xs 53 1 l st M = am_a1 st fun o r => (am_gf (am_f M o) 7 11).bind fun w => am_nx 4 l (w :: r) M := rfl
theorem xi_53_4 : am_do xs 53 4 l st M = am_rti st 0 := rfl
theorem xi_54_0 : am_do xs 54 0 l st M = am_lda (am_lg l 0) 1 l st M := rfl
theorem xi_54_1 : am_do xs 54 1 l st M = am_ldi (am_lg l 1) 2 l st M := rfl
theorem xi_54_2 : am_do xs 54 2 l st M = am_inv 1 2 (.retAddr 7) st M := rfl
theorem xt_54_2 : am_to 54 2 = 86 := rfl
theorem xi_54_5 : am_do xs 54 5 l st M = am_a1 st fun o r => (am_gf (am_f M o) 4 9).bind fun w => am_nx 8 l (w :: r) M := rfl
theorem xi_54_8 : am_do xs 54 8 l st M = am_rti st 0 := rfl
theorem xi_55_0 : am_do xs 55 0 l st M = am_lda (am_lg l 0) 1 l st M := rfl
theorem xi_55_1 : am_do xs 55 1 l st M = am_ldi (am_lg l 1) 2 l st M := rfl
theorem xi_55_2 : am_do xs 55 2 l st M = am_inv 1 2 (.retAddr 7) st M := rfl
theorem xt_55_2 : am_to 55 2 = 87 := rfl
theorem xi_55_5 : am_do xs 55 5 l st M = am_a1 st fun o r => (am_gf (am_f M o) 3 1).bind fun w => am_nx 8 l (w :: r) M := rfl
theorem xi_55_8 : am_do xs 55 8 l st M = am_rti st 0 := rfl
theorem xi_56_0 : am_do xs 56 0 l st M = am_lda (am_lg l 0) 1 l st M := rfl
theorem xi_56_1 : am_do xs 56 1 l st M = am_ldi (am_lg l 1) 2 l st M := rfl
theorem xi_56_2 : am_do xs 56 2 l st M = am_inv 1 2 (.retAddr 7) st M := rfl
theorem xt_56_2 : am_to 56 2 = 87 := rfl
theorem xi_56_5 : am_do xs 56 5 l st M = am_a1 st fun o r => (am_gf (am_f M o) 3 0).bind fun w => am_nx 8 l (w :: r) M := rfl
theorem xi_56_8 : am_do xs 56 8 l st M = am_a1 st fun o r => (am_gf (am_f M o) 4 0).bind fun w => am_nx 11 l (w :: r) M := rfl
theorem xi_56_11 : am_do xs 56 11 l st M = am_rti st 0 := rfl
theorem xi_57_0 : am_do xs 57 0 l st M = am_lda (am_lg l 0) 1 l st M := rfl
theorem xi_57_1 : am_do xs 57 1 l st M = am_ldi (am_lg l 1) 2 l st M := rfl
theorem xi_57_2 : am_do xs 57 2 l st M = am_inv 1 2 (.retAddr 7) st M := rfl
theorem xt_57_2 : am_to 57 2 = 87 := rfl
theorem xi_57_5 : am_do xs 57 5 l st M = am_a1 st fun o r => (am_gf (am_f M o) 3 5).bind fun w => am_nx 8 l (w :: r) M := rfl
theorem xi_57_8 : am_do xs 57 8 l st M = am_sta 3 9 l st M := rfl
theorem xi_57_9 : am_do xs 57 9 l st M = am_lda (am_lg l 3) 10 l st M := rfl
theorem xi_57_10 : am_do xs 57 10 l st M = am_a1 st fun o r => (am_gf (am_f M o) 5 0).bind fun w => am_nx 13 l (w :: r) M := rfl
theorem xi_57_13 : am_do xs 57 13 l st M = am_ldi (am_lg l 2) 14 l st M := rfl
theorem xi_57_14 : am_do xs 57 14 l st M = am_inv 0 2 (.retAddr 7) st M := rfl
theorem xt_57_14 : am_to 57 14 = 81 := rfl
theorem xi_57_17 : am_do xs 57 17 l st M = am_lda (am_lg l 3) 18 l st M := rfl
theorem xi_57_18 : am_do xs 57 18 l st M = am_a1 st fun o r => (am_gf (am_f M o) 5 1).bind fun w => am_nx 21 l (w :: r) M := rfl
theorem xi_57_21 : am_do xs 57 21 l st M = am_ldi (am_lg l 2) 22 l st M := rfl
theorem xi_57_22 : am_do xs 57 22 l st M = am_ial xs st 23 l M := rfl
theorem xi_57_23 : am_do xs 57 23 l st M = am_rti st 0 := rfl
theorem xi_58_0 : am_do xs 58 0 l st M = am_lda (am_lg l 0) 1 l st M := rfl
theorem xi_58_1 : am_do xs 58 1 l st M = am_ldi (am_lg l 1) 2 l st M := rfl
theorem xi_58_2 : am_do xs 58 2 l st M = am_inv 1 2 (.retAddr 7) st M := rfl
theorem xt_58_2 : am_to 58 2 = 87 := rfl
theorem xi_58_5 : am_do xs 58 5 l st M = am_a1 st fun o r => (am_gf (am_f M o) 3 3).bind fun w => am_nx 8 l (w :: r) M := rfl
theorem xi_58_8 : am_do xs 58 8 l st M = am_rtj st := rfl
theorem xi_59_0 : am_do xs 59 0 l st M = am_nx 1 l (.int 0 :: st) M := rfl
theorem xi_59_1 : am_do xs 59 1 l st M = am_i1 st fun x r => am_nx 2 (am_s1 l 1 (.int x)) r M := rfl
theorem xi_59_2 : am_do xs 59 2 l st M = am_nx 3 l (.int (-1) :: st) M := rfl
theorem xi_59_3 : am_do xs 59 3 l st M = am_i1 st fun x r => am_nx 4 (am_s1 l 2 (.int x)) r M := rfl
theorem xi_59_4 : am_do xs 59 4 l st M = am_nx 5 l (.int 0 :: st) M := rfl
theorem xi_59_5 : am_do xs 59 5 l st M = am_i1 st fun x r => am_nx 6 (am_s1 l 3 (.int x)) r M := rfl
theorem xi_59_6 : am_do xs 59 6 l st M = am_ldi (am_lg l 3) 7 l st M := rfl
theorem xi_59_7 : am_do xs 59 7 l st M = am_lda (am_lg l 0) 8 l st M := rfl
theorem xi_59_8 : am_do xs 59 8 l st M = am_a1 st fun o r => (am_gf (am_f M o) 7 13).bind fun w => am_nx 11 l (w :: r) M := rfl
theorem xi_59_11 : am_do xs 59 11 l st M = am_aln xs st 12 l M := rfl
theorem xi_59_12 : am_do xs 59 12 l st M = am_i2 st fun x y r => am_nx (if y ≤ x then 56 else 15) l r M := rfl
theorem xi_59_15 : am_do xs 59 15 l st M = am_lda (am_lg l 0) 16 l st M := rfl
theorem xi_59_16 : am_do xs 59 16 l st M = am_a1 st fun o r => (am_gf (am_f M o) 7 13).bind fun w => am_nx 19 l (w :: r) M := rfl
theorem xi_59_19 : am_do xs 59 19 l st M = am_ldi (am_lg l 3) 20 l st M := rfl
theorem xi_59_20 : am_do xs 59 20 l st M = am_ia st fun i o r => (am_aa (am_f M o) i).bind fun w => am_nx 21 l (w :: r) M := rfl
theorem xi_59_21 : am_do xs 59 21 l st M = am_nul st 56 24 l M := rfl
theorem xi_59_24 : am_do xs 59 24 l st M = am_lda (am_lg l 0) 25 l st M := rfl
theorem xi_59_25 : am_do xs 59 25 l st M = am_a1 st fun o r => (am_gf (am_f M o) 7 13).bind fun w => am_nx 28 l (w :: r) M := rfl
theorem xi_59_28 : am_do xs 59 28 l st M = am_ldi (am_lg l 3) 29 l st M := rfl
theorem xi_59_29 : am_do xs 59 29 l st M = am_ia st fun i o r => (am_aa (am_f M o) i).bind fun w => am_nx 30 l (w :: r) M := rfl
theorem xi_59_30 : am_do xs 59 30 l st M = am_a1 st fun o r => (am_gf (am_f M o) 3 1).bind fun w => am_nx 33 l (w :: r) M := rfl
theorem xi_59_33 : am_do xs 59 33 l st M = am_ldi (am_lg l 2) 34 l st M := rfl
theorem xi_59_34 : am_do xs 59 34 l st M = am_i2 st fun x y r => am_nx (if x = y then 50 else 37) l r M := rfl
theorem xi_59_37 : am_do xs 59 37 l st M = am_lda (am_lg l 0) 38 l st M := rfl
theorem xi_59_38 : am_do xs 59 38 l st M = am_a1 st fun o r => (am_gf (am_f M o) 7 13).bind fun w => am_nx 41 l (w :: r) M := rfl
theorem xi_59_41 : am_do xs 59 41 l st M = am_ldi (am_lg l 3) 42 l st M := rfl
theorem xi_59_42 : am_do xs 59 42 l st M = am_ia st fun i o r => (am_aa (am_f M o) i).bind fun w => am_nx 43 l (w :: r) M := rfl
theorem xi_59_43 : am_do xs 59 43 l st M = am_a1 st fun o r => (am_gf (am_f M o) 3 1).bind fun w => am_nx 46 l (w :: r) M := rfl
theorem xi_59_46 : am_do xs 59 46 l st M = am_i1 st fun x r => am_nx 47 (am_s1 l 2 (.int x)) r M := rfl
theorem xi_59_47 : am_do xs 59 47 l st M = am_inc (am_lg l 1) 1 1 50 l st M := rfl
theorem xi_59_50 : am_do xs 59 50 l st M = am_inc (am_lg l 3) 3 1 53 l st M := rfl
theorem xi_59_53 : am_do xs 59 53 l st M = am_nx 6 l st M := rfl
theorem xi_59_56 : am_do xs 59 56 l st M = am_ldi (am_lg l 1) 57 l st M := rfl
theorem xi_59_57 : am_do xs 59 57 l st M = am_rti st 0 := rfl
theorem xi_60_0 : am_do xs 60 0 l st M = am_ldj (am_lg l 1) 1 l st M := rfl
theorem xi_60_1 : am_do xs 60 1 l st M = am_nx 2 l (.long 0 :: st) M := rfl
theorem xi_60_2 : am_do xs 60 2 l st M = am_nx 5 l (.long 10000000000000 :: st) M := rfl
theorem xi_60_5 : am_do xs 60 5 l st M = am_inv 0 3 (.retAddr 7) st M := rfl
theorem xt_60_5 : am_to 60 5 = 80 := rfl
theorem xi_60_8 : am_do xs 60 8 l st M = am_lda (am_lg l 0) 9 l st M := rfl
theorem xi_60_9 : am_do xs 60 9 l st M = am_a1 st fun o r => (am_gf (am_f M o) 7 15).bind fun w => am_nx 12 l (w :: r) M := rfl
theorem xi_60_12 : am_do xs 60 12 l st M = am_j1 st fun x r => am_nx 13 (am_s2 l 3 (.long x)) r M := rfl
theorem xi_60_13 : am_do xs 60 13 l st M = am_lda (am_lg l 0) 14 l st M := rfl
theorem xi_60_14 : am_do xs 60 14 l st M = am_ldj (am_lg l 1) 15 l st M := rfl
theorem xi_60_15 : am_do xs 60 15 l st M = am_put st 7 15 1 18 l M := rfl
theorem xi_60_18 : am_do xs 60 18 l st M = am_ldj (am_lg l 3) 19 l st M := rfl
theorem xi_60_19 : am_do xs 60 19 l st M = am_rtj st := rfl
theorem xi_61_0 : am_do xs 61 0 l st M = am_lda (am_lg l 0) 1 l st M := rfl
theorem xi_61_1 : am_do xs 61 1 l st M = am_ldi (am_lg l 1) 2 l st M := rfl
theorem xi_61_2 : am_do xs 61 2 l st M = am_inv 1 2 (.retAddr 7) st M := rfl
theorem xt_61_2 : am_to 61 2 = 87 := rfl
theorem xi_61_5 : am_do xs 61 5 l st M = am_sta 3 6 l st M := rfl
theorem xi_61_6 : am_do xs 61 6 l st M = am_lda (am_lg l 3) 7 l st M := rfl
theorem xi_61_7 : am_do xs 61 7 l st M = am_a1 st fun o r => (am_gf (am_f M o) 3 0).bind fun w => am_nx 10 l (w :: r) M := rfl
theorem xi_61_10 : am_do xs 61 10 l st M = am_a1 st fun o r => (am_gf (am_f M o) 4 2).bind fun w => am_nx 13 l (w :: r) M := rfl
theorem xi_61_13 : am_do xs 61 13 l st M = am_ldi (am_lg l 2) 14 l st M := rfl
theorem xi_61_14 : am_do xs 61 14 l st M = am_inv 0 2 (.retAddr 7) st M := rfl
theorem xt_61_14 : am_to 61 14 = 81 := rfl
theorem xi_61_17 : am_do xs 61 17 l st M = am_lda (am_lg l 0) 18 l st M := rfl
theorem xi_61_18 : am_do xs 61 18 l st M = am_lda (am_lg l 3) 19 l st M := rfl
theorem xi_61_19 : am_do xs 61 19 l st M = am_a1 st fun o r => (am_gf (am_f M o) 3 5).bind fun w => am_nx 22 l (w :: r) M := rfl
theorem xi_61_22 : am_do xs 61 22 l st M = am_a1 st fun o r => (am_gf (am_f M o) 5 2).bind fun w => am_nx 25 l (w :: r) M := rfl
theorem xi_61_25 : am_do xs 61 25 l st M = am_ldi (am_lg l 2) 26 l st M := rfl
theorem xi_61_26 : am_do xs 61 26 l st M = am_ia st fun i o r => (am_aj (am_f M o) i).bind fun x => am_nx 27 l (.long x :: r) M := rfl
theorem xi_61_27 : am_do xs 61 27 l st M = am_lda (am_lg l 3) 28 l st M := rfl
theorem xi_61_28 : am_do xs 61 28 l st M = am_a1 st fun o r => (am_gf (am_f M o) 3 0).bind fun w => am_nx 31 l (w :: r) M := rfl
theorem xi_61_31 : am_do xs 61 31 l st M = am_lda (am_lg l 3) 32 l st M := rfl
theorem xi_61_32 : am_do xs 61 32 l st M = am_a1 st fun o r => (am_gf (am_f M o) 3 0).bind fun w => am_nx 35 l (w :: r) M := rfl
theorem xi_61_35 : am_do xs 61 35 l st M = am_a1 st fun o r => (am_gf (am_f M o) 4 10).bind fun w => am_nx 38 l (w :: r) M := rfl
theorem xi_61_38 : am_do xs 61 38 l st M = am_inv 1 4 (.retAddr 7) st M := rfl
theorem xt_61_38 : am_to 61 38 = 92 := rfl
theorem xi_61_41 : am_do xs 61 41 l st M = am_rtj st := rfl
theorem xi_62_0 : am_do xs 62 0 l st M = am_lda (am_lg l 0) 1 l st M := rfl
theorem xi_62_1 : am_do xs 62 1 l st M = am_lda (am_lg l 0) 2 l st M := rfl
theorem xi_62_2 : am_do xs 62 2 l st M = am_ldi (am_lg l 1) 3 l st M := rfl
theorem xi_62_3 : am_do xs 62 3 l st M = am_inv 1 2 (.retAddr 7) st M := rfl
theorem xt_62_3 : am_to 62 3 = 87 := rfl
theorem xi_62_6 : am_do xs 62 6 l st M = am_inv 1 2 (.retAddr 7) st M := rfl
theorem xt_62_6 : am_to 62 6 = 93 := rfl
theorem xi_62_9 : am_do xs 62 9 l st M = am_rtj st := rfl
theorem xi_63_0 : am_do xs 63 0 l st M = am_lda (am_lg l 0) 1 l st M := rfl
theorem xi_63_1 : am_do xs 63 1 l st M = am_ldi (am_lg l 1) 2 l st M := rfl
theorem xi_63_2 : am_do xs 63 2 l st M = am_inv 1 2 (.retAddr 7) st M := rfl
theorem xt_63_2 : am_to 63 2 = 87 := rfl
theorem xi_63_5 : am_do xs 63 5 l st M = am_a1 st fun o r => (am_gf (am_f M o) 3 5).bind fun w => am_nx 8 l (w :: r) M := rfl
theorem xi_63_8 : am_do xs 63 8 l st M = am_sta 3 9 l st M := rfl
theorem xi_63_9 : am_do xs 63 9 l st M = am_lda (am_lg l 3) 10 l st M := rfl
theorem xi_63_10 : am_do xs 63 10 l st M = am_a1 st fun o r => (am_gf (am_f M o) 5 0).bind fun w => am_nx 13 l (w :: r) M := rfl
theorem xi_63_13 : am_do xs 63 13 l st M = am_ldi (am_lg l 2) 14 l st M := rfl
theorem xi_63_14 : am_do xs 63 14 l st M = am_inv 0 2 (.retAddr 7) st M := rfl
theorem xt_63_14 : am_to 63 14 = 81 := rfl
theorem xi_63_17 : am_do xs 63 17 l st M = am_lda (am_lg l 3) 18 l st M := rfl
theorem xi_63_18 : am_do xs 63 18 l st M = am_ldi (am_lg l 2) 19 l st M := rfl
theorem xi_63_19 : am_do xs 63 19 l st M = am_inv 1 2 (.retAddr 5) st M := rfl
theorem xt_63_19 : am_to 63 19 = 24 := rfl
theorem xi_63_22 : am_do xs 63 22 l st M = am_rtj st := rfl
theorem xi_64_0 : am_do xs 64 0 l st M = am_lda (am_lg l 0) 1 l st M := rfl
theorem xi_64_1 : am_do xs 64 1 l st M = am_ldi (am_lg l 1) 2 l st M := rfl
theorem xi_64_2 : am_do xs 64 2 l st M = am_inv 1 2 (.retAddr 7) st M := rfl
theorem xt_64_2 : am_to 64 2 = 87 := rfl
theorem xi_64_5 : am_do xs 64 5 l st M = am_a1 st fun o r => (am_gf (am_f M o) 3 5).bind fun w => am_nx 8 l (w :: r) M := rfl
theorem xi_64_8 : am_do xs 64 8 l st M = am_sta 3 9 l st M := rfl
theorem xi_64_9 : am_do xs 64 9 l st M = am_lda (am_lg l 3) 10 l st M := rfl
theorem xi_64_10 : am_do xs 64 10 l st M = am_a1 st fun o r => (am_gf (am_f M o) 5 0).bind fun w => am_nx 13 l (w :: r) M := rfl
theorem xi_64_13 : am_do xs 64 13 l st M = am_ldi (am_lg l 2) 14 l st M := rfl
theorem xi_64_14 : am_do xs 64 14 l st M = am_inv 0 2 (.retAddr 7) st M := rfl
theorem xt_64_14 : am_to 64 14 = 81 := rfl
theorem xi_64_17 : am_do xs 64 17 l st M = am_lda (am_lg l 3) 18 l st M := rfl
theorem xi_64_18 : am_do xs 64 18 l st M = am_ldi (am_lg l 2) 19 l st M := rfl
theorem xi_64_19 : am_do xs 64 19 l st M = am_inv 1 2 (.retAddr 5) st M := rfl
theorem xt_64_19 : am_to 64 19 = 25 := rfl
theorem xi_64_22 : am_do xs 64 22 l st M = am_rti st 2 := rfl
theorem xi_65_0 : am_do xs 65 0 l st M = am_lda (am_lg l 0) 1 l st M := rfl
theorem xi_65_1 : am_do xs 65 1 l st M = am_ldi (am_lg l 1) 2 l st M := rfl
theorem xi_65_2 : am_do xs 65 2 l st M = am_inv 1 2 (.retAddr 7) st M := rfl
theorem xt_65_2 : am_to 65 2 = 86 := rfl
theorem xi_65_5 : am_do xs 65 5 l st M = am_sta 3 6 l st M := rfl
theorem xi_65_6 : am_do xs 65 6 l st M = am_lda (am_lg l 3) 7 l st M := rfl
theorem xi_65_7 : am_do xs 65 7 l st M = am_a1 st fun o r => (am_gf (am_f M o) 4 2).bind fun w => am_nx 10 l (w :: r) M := rfl
theorem xi_65_10 : am_do xs 65 10 l st M = am_ldi (am_lg l 2) 11 l st M := rfl
theorem xi_65_11 : am_do xs 65 11 l st M = am_inv 0 2 (.retAddr 7) st M := rfl
theorem xt_65_11 : am_to 65 11 = 81 := rfl
theorem xi_65_14 : am_do xs 65 14 l st M = am_nx 15 l (.int 0 :: st) M := rfl
theorem xi_65_15 : am_do xs 65 15 l st M = am_i1 st fun x r => am_nx 17 (am_s1 l 4 (.int x)) r M := rfl
theorem xi_65_17 : am_do xs 65 17 l st M = am_lda (am_lg l 3) 18 l st M := rfl
theorem xi_65_18 : am_do xs 65 18 l st M = am_a1 st fun o r => (am_gf (am_f M o) 4 7).bind fun w => am_nx 21 l (w :: r) M := rfl
theorem xi_65_21 : am_do xs 65 21 l st M = am_sta 5 23 l st M := rfl
theorem xi_65_23 : am_do xs 65 23 l st M = am_lda (am_lg l 5) 25 l st M := rfl
theorem xi_65_25 : am_do xs 65 25 l st M = am_nul st 53 28 l M := rfl
theorem xi_65_28 : am_do xs 65 28 l st M = am_lda (am_lg l 5) 30 l st M := rfl
theorem xi_65_30 : am_do xs 65 30 l st M = am_a1 st fun o r => (am_gf (am_f M o) 3 5).bind fun w => am_nx 33 l (w :: r) M := rfl
theorem xi_65_33 : am_do xs 65 33 l st M = am_ldi (am_lg l 2) 34 l st M := rfl
theorem xi_65_34 : am_do xs 65 34 l st M = am_inv 1 2 (.retAddr 5) st M := rfl
theorem xt_65_34 : am_to 65 34 = 25 := rfl
theorem xi_65_37 : am_do xs 65 37 l st M = am_i1 st fun x r => am_nx (if x = 0 then 43 else 40) l r M := rfl
theorem xi_65_40 : am_do xs 65 40 l st M = am_inc (am_lg l 4) 4 1 43 l st M := rfl
theorem xi_65_43 : am_do xs 65 43 l st M = am_lda (am_lg l 5) 45 l st M := rfl
theorem xi_65_45 : am_do xs 65 45 l st M = am_a1 st fun o r => (am_gf (am_f M o) 3 7).bind fun w => am_nx 48 l (w :: r) M := rfl
theorem xi_65_48 : am_do xs 65 48 l st M = am_sta 5 50 l st M := rfl
theorem xi_65_50 : am_do xs 65 50 l st M = am_nx 23 l st M := rfl
theorem xi_65_53 : am_do xs 65 53 l st M = am_ldi (am_lg l 4) 55 l st M := rfl
theorem xi_65_55 : am_do xs 65 55 l st M = am_rti st 0 := rfl
theorem xi_66_0 : am_do xs 66 0 l st M = am_lda (am_lg l 0) 1 l st M := rfl
theorem xi_66_1 : am_do xs 66 1 l st M = am_lda (am_lg l 0) 2 l st M := rfl
theorem xi_66_2 : am_do xs 66 2 l st M = am_ldi (am_lg l 1) 3 l st M := rfl
theorem xi_66_3 : am_do xs 66 3 l st M = am_inv 1 2 (.retAddr 7) st M := rfl
theorem xt_66_3 : am_to 66 3 = 87 := rfl
theorem xi_66_6 : am_do xs 66 6 l st M = am_inv 1 2 (.retAddr 7) st M := rfl
theorem xt_66_6 : am_to 66 6 = 94 := rfl
theorem xi_66_9 : am_do xs 66 9 l st M = am_rtj st := rfl
theorem xi_67_0 : am_do xs 67 0 l st M = am_lda (am_lg l 0) 1 l st M := rfl
theorem xi_67_1 : am_do xs 67 1 l st M = am_lda (am_lg l 0) 2 l st M := rfl
theorem xi_67_2 : am_do xs 67 2 l st M = am_ldi (am_lg l 1) 3 l st M := rfl
theorem xi_67_3 : am_do xs 67 3 l st M = am_inv 1 2 (.retAddr 7) st M := rfl
theorem xt_67_3 : am_to 67 3 = 87 := rfl
theorem xi_67_6 : am_do xs 67 6 l st M = am_inv 1 2 (.retAddr 7) st M := rfl
theorem xt_67_6 : am_to 67 6 = 95 := rfl
theorem xi_67_9 : am_do xs 67 9 l st M = am_rtj st := rfl
theorem xi_68_0 : am_do xs 68 0 l st M = am_ldj (am_lg l 1) 1 l st M := rfl
theorem xi_68_1 : am_do xs 68 1 l st M = am_nx 2 l (.long 0 :: st) M := rfl
theorem xi_68_2 : am_do xs 68 2 l st M = am_nx 5 l (.long 1000000000 :: st) M := rfl
theorem xi_68_5 : am_do xs 68 5 l st M = am_inv 0 3 (.retAddr 7) st M := rfl
theorem xt_68_5 : am_to 68 5 = 80 := rfl
theorem xi_68_8 : am_do xs 68 8 l st M = am_lda (am_lg l 0) 9 l st M := rfl
theorem xi_68_9 : am_do xs 68 9 l st M = am_a1 st fun o r => (am_gf (am_f M o) 7 16).bind fun w => am_nx 12 l (w :: r) M := rfl
theorem xi_68_12 : am_do xs 68 12 l st M = am_j1 st fun x r => am_nx 13 (am_s2 l 3 (.long x)) r M := rfl
theorem xi_68_13 : am_do xs 68 13 l st M = am_lda (am_lg l 0) 14 l st M := rfl
theorem xi_68_14 : am_do xs 68 14 l st M = am_ldj (am_lg l 1) 15 l st M := rfl
theorem xi_68_15 : am_do xs 68 15 l st M = am_put st 7 16 1 18 l M := rfl
theorem xi_68_18 : am_do xs 68 18 l st M = am_ldj (am_lg l 3) 19 l st M := rfl
theorem xi_68_19 : am_do xs 68 19 l st M = am_rtj st := rfl
theorem xi_69_0 : am_do xs 69 0 l st M = am_nx 1 l (.int 0 :: st) M := rfl
theorem xi_69_1 : am_do xs 69 1 l st M = am_i1 st fun x r => am_nx 2 (am_s1 l 2 (.int x)) r M := rfl
theorem xi_69_2 : am_do xs 69 2 l st M = am_lda (am_lg l 0) 3 l st M := rfl
theorem xi_69_3 : am_do xs 69 3 l st M = am_ldi (am_lg l 1) 4 l st M := rfl
theorem xi_69_4 : am_do xs 69 4 l st M = am_inv 1 2 (.retAddr 7) st M := rfl
theorem xt_69_4 : am_to 69 4 = 86 := rfl
theorem xi_69_7 : am_do xs 69 7 l st M = am_a1 st fun o r => (am_gf (am_f M o) 4 7).bind fun w => am_nx 10 l (w :: r) M := rfl
theorem xi_69_10 : am_do xs 69 10 l st M = am_sta 3 11 l st M := rfl
theorem xi_69_11 : am_do xs 69 11 l st M = am_lda (am_lg l 3) 12 l st M := rfl
theorem xi_69_12 : am_do xs 69 12 l st M = am_nul st 49 15 l M := rfl
theorem xi_69_15 : am_do xs 69 15 l st M = am_lda (am_lg l 3) 16 l st M := rfl
theorem xi_69_16 : am_do xs 69 16 l st M = am_a1 st fun o r => (am_gf (am_f M o) 3 6).bind fun w => am_nx 19 l (w :: r) M := rfl
theorem xi_69_19 : am_do xs 69 19 l st M = am_nul st 41 22 l M := rfl
theorem xi_69_22 : am_do xs 69 22 l st M = am_lda (am_lg l 0) 23 l st M := rfl
theorem xi_69_23 : am_do xs 69 23 l st M = am_lda (am_lg l 3) 24 l st M := rfl
theorem xi_69_24 : am_do xs 69 24 l st M = am_inv 1 2 (.retAddr 7) st M := rfl
theorem xt_69_24 : am_to 69 24 = 95 := rfl
theorem xi_69_27 : am_do xs 69 27 l st M = am_inv 0 1 (.retAddr 100) st M := rfl
theorem xt_69_27 : am_to 69 27 = 2 := rfl
theorem xi_69_30 : am_do xs 69 30 l st M = am_lda (am_lg l 0) 31 l st M := rfl
theorem xi_69_31 : am_do xs 69 31 l st M = am_a1 st fun o r => (am_gf (am_f M o) 7 16).bind fun w => am_nx 34 l (w :: r) M := rfl
theorem xi_69_34 : am_do xs 69 34 l st M = am_j2 st fun x y r => am_nx 35 l (.int (lg_cmp x y) :: r) M := rfl
theorem xi_69_35 : am_do xs 69 35 l st M = am_i1 st fun x r => am_nx (if x ≤ 0 then 41 else 38) l r M := rfl
theorem xi_69_38 : am_do xs 69 38 l st M = am_inc (am_lg l 2) 2 1 41 l st M := rfl
theorem xi_69_41 : am_do xs 69 41 l st M = am_lda (am_lg l 3) 42 l st M := rfl
theorem xi_69_42 : am_do xs 69 42 l st M = am_a1 st fun o r => (am_gf (am_f M o) 3 7).bind fun w => am_nx 45 l (w :: r) M := rfl
theorem xi_69_45 : am_do xs 69 45 l st M = am_sta 3 46 l st M := rfl
theorem xi_69_46 : am_do xs 69 46 l st M = am_nx 11 l st M := rfl
theorem xi_69_49 : am_do xs 69 49 l st M = am_ldi (am_lg l 2) 50 l st M := rfl
theorem xi_69_50 : am_do xs 69 50 l st M = am_rti st 0 := rfl
theorem xi_70_0 : am_do xs 70 0 l st M = am_lda (am_lg l 0) 1 l st M := rfl
theorem xi_70_1 : am_do xs 70 1 l st M = am_lda (am_lg l 0) 2 l st M := rfl
theorem xi_70_2 : am_do xs 70 2 l st M = am_ldi (am_lg l 1) 3 l st M := rfl
theorem xi_70_3 : am_do xs 70 3 l st M = am_inv 1 2 (.retAddr 7) st M := rfl
theorem xt_70_3 : am_to 70 3 = 86 := rfl
theorem xi_70_6 : am_do xs 70 6 l st M = am_inv 1 2 (.retAddr 7) st M := rfl
theorem xt_70_6 : am_to 70 6 = 96 := rfl
theorem xi_70_9 : am_do xs 70 9 l st M = am_rtd st := rfl
theorem xi_71_0 : am_do xs 71 0 l st M = am_lda (am_lg l 0) 1 l st M := rfl
theorem xi_71_1 : am_do xs 71 1 l st M = am_ldi (am_lg l 1) 2 l st M := rfl
theorem xi_71_2 : am_do xs 71 2 l st M = am_inv 1 2 (.retAddr 7) st M := rfl
theorem xt_71_2 : am_to 71 2 = 86 := rfl
theorem xi_71_5 : am_do xs 71 5 l st M = am_sta 2 6 l st M := rfl
theorem xi_71_6 : am_do xs 71 6 l st M = am_lda (am_lg l 0) 7 l st M := rfl
theorem xi_71_7 : am_do xs 71 7 l st M = am_lda (am_lg l 2) 8 l st M := rfl
theorem xi_71_8 : am_do xs 71 8 l st M = am_inv 1 2 (.retAddr 7) st M := rfl
theorem xt_71_8 : am_to 71 8 = 96 := rfl
theorem xi_71_11 : am_do xs 71 11 l st M = am_d1 st fun x r => am_nx 12 (am_s2 l 3 (.double x)) r M := rfl
theorem xi_71_12 : am_do xs 71 12 l st M = am_nx 13 l (.double FP.dconst0 :: st) M := rfl
theorem xi_71_13 : am_do xs 71 13 l st M = am_d1 st fun x r => am_nx 15 (am_s2 l 5 (.double x)) r M := rfl
theorem xi_71_15 : am_do xs 71 15 l st M = am_lda (am_lg l 2) 16 l st M := rfl
theorem xi_71_16 : am_do xs 71 16 l st M = am_a1 st fun o r => (am_gf (am_f M o) 4 7).bind fun w => am_nx 19 l (w :: r) M := rfl
theorem xi_71_19 : am_do xs 71 19 l st M = am_sta 7 21 l st M := rfl
theorem xi_71_21 : am_do xs 71 21 l st M = am_lda (am_lg l 7) 23 l st M := rfl
theorem xi_71_23 : am_do xs 71 23 l st M = am_nul st 65 26 l M := rfl
theorem xi_71_26 : am_do xs 71 26 l st M = am_lda (am_lg l 7) 28 l st M := rfl
theorem xi_71_28 : am_do xs 71 28 l st M = am_a1 st fun o r => (am_gf (am_f M o) 3 6).bind fun w => am_nx 31 l (w :: r) M := rfl
theorem xi_71_31 : am_do xs 71 31 l st M = am_nul st 55 34 l M := rfl
theorem xi_71_34 : am_do xs 71 34 l st M = am_lda (am_lg l 0) 35 l st M := rfl
theorem xi_71_35 : am_do xs 71 35 l st M = am_lda (am_lg l 7) 37 l st M := rfl
theorem xi_71_37 : am_do xs 71 37 l st M = am_inv 1 2 (.retAddr 7) st M := rfl
theorem xt_71_37 : am_to 71 37 = 95 := rfl
theorem xi_71_40 : am_do xs 71 40 l st M = am_j1 st fun x r => am_nx 41 l (.double (FP.l2d x) :: r) M := rfl
theorem xi_71_41 : am_do xs 71 41 l st M = am_ldd (am_lg l 3) 42 l st M := rfl
theorem xi_71_42 : am_do xs 71 42 l st M = am_d2 st fun x y r => am_nx 43 l (.double (FP.dsub x y) :: r) M := rfl
theorem xi_71_43 : am_do xs 71 43 l st M = am_d1 st fun x r => am_nx 45 (am_s2 l 8 (.double x)) r M := rfl
theorem xi_71_45 : am_do xs 71 45 l st M = am_ldd (am_lg l 5) 47 l st M := rfl
theorem xi_71_47 : am_do xs 71 47 l st M = am_ldd (am_lg l 8) 49 l st M := rfl
theorem xi_71_49 : am_do xs 71 49 l st M = am_ldd (am_lg l 8) 51 l st M := rfl
theorem xi_71_51 : am_do xs 71 51 l st M = am_d2 st fun x y r => am_nx 52 l (.double (FP.dmul x y) :: r) M := rfl
theorem xi_71_52 : am_do xs 71 52 l st M = am_d2 st fun x y r => am_nx 53 l (.double (FP.dadd x y) :: r) M := rfl
theorem xi_71_53 : am_do xs 71 53 l st M = am_d1 st fun x r => am_nx 55 (am_s2 l 5 (.double x)) r M := rfl
theorem xi_71_55 : am_do xs 71 55 l st M = am_lda (am_lg l 7) 57 l st M := rfl
theorem xi_71_57 : am_do xs 71 57 l st M = am_a1 st fun o r => (am_gf (am_f M o) 3 7).bind fun w => am_nx 60 l (w :: r) M := rfl
theorem xi_71_60 : am_do xs 71 60 l st M = am_sta 7 62 l st M := rfl
theorem xi_71_62 : am_do xs 71 62 l st M = am_nx 21 l st M := rfl
theorem xi_71_65 : am_do xs 71 65 l st M = am_ldd (am_lg l 5) 67 l st M := rfl
theorem xi_71_67 : am_do xs 71 67 l st M = am_lda (am_lg l 2) 68 l st M := rfl
theorem xi_71_68 : am_do xs 71 68 l st M = am_a1 st fun o r => (am_gf (am_f M o) 4 9).bind fun w => am_nx 71 l (w :: r) M := rfl
theorem xi_71_71 : am_do xs 71 71 l st M = am_nx 72 l (.int 1 :: st) M := rfl
theorem xi_71_72 : am_do xs 71 72 l st M = am_i2 st fun x y r => am_nx 73 l (.int (x - y) :: r) M := rfl
theorem xi_71_73 : am_do xs 71 73 l st M = am_i1 st fun x r => am_nx 74 l (.double (FP.i2d x) :: r) M := rfl
theorem xi_71_74 : am_do xs 71 74 l st M = am_d2 st fun x y r => am_nx 75 l (.double (FP.ddiv x y) :: r) M := rfl
theorem xi_71_75 : am_do xs 71 75 l st M = am_rtd st := rfl
theorem xi_72_0 : am_do xs 72 0 l st M = am_ldi (am_lg l 1) 1 l st M := rfl
theorem xi_72_1 : am_do xs 72 1 l st M = am_i1 st fun x r => am_nx 2 l (.long x.toInt64 :: r) M := rfl
theorem xi_72_2 : am_do xs 72 2 l st M = am_nx 3 l (.long 1 :: st) M := rfl
theorem xi_72_3 : am_do xs 72 3 l st M = am_nx 6 l (.long 50 :: st) M := rfl
theorem xi_72_6 : am_do xs 72 6 l st M = am_inv 0 3 (.retAddr 7) st M := rfl
theorem xt_72_6 : am_to 72 6 = 80 := rfl
theorem xi_72_9 : am_do xs 72 9 l st M = am_lda (am_lg l 0) 10 l st M := rfl
theorem xi_72_10 : am_do xs 72 10 l st M = am_a1 st fun o r => (am_gf (am_f M o) 7 17).bind fun w => am_nx 13 l (w :: r) M := rfl
theorem xi_72_13 : am_do xs 72 13 l st M = am_i1 st fun x r => am_nx 14 (am_s1 l 2 (.int x)) r M := rfl
theorem xi_72_14 : am_do xs 72 14 l st M = am_lda (am_lg l 0) 15 l st M := rfl
theorem xi_72_15 : am_do xs 72 15 l st M = am_ldi (am_lg l 1) 16 l st M := rfl
theorem xi_72_16 : am_do xs 72 16 l st M = am_put st 7 17 0 19 l M := rfl
theorem xi_72_19 : am_do xs 72 19 l st M = am_ldi (am_lg l 2) 20 l st M := rfl
theorem xi_72_20 : am_do xs 72 20 l st M = am_rti st 0 := rfl
theorem xi_73_0 : am_do xs 73 0 l st M = am_lda (am_lg l 0) 1 l st M := rfl
theorem xi_73_1 : am_do xs 73 1 l st M = am_lda (am_lg l 0) 2 l st M := rfl
theorem xi_73_2 : am_do xs 73 2 l st M = am_ldi (am_lg l 1) 3 l st M := rfl
theorem xi_73_3 : am_do xs 73 3 l st M = am_inv 1 2 (.retAddr 7) st M := rfl
theorem xt_73_3 : am_to 73 3 = 87 := rfl
theorem xi_73_6 : am_do xs 73 6 l st M = am_inv 1 2 (.retAddr 7) st M := rfl
theorem xt_73_6 : am_to 73 6 = 97 := rfl
theorem xi_73_9 : am_do xs 73 9 l st M = am_rtj st := rfl
theorem xi_74_0 : am_do xs 74 0 l st M = am_lda (am_lg l 0) 1 l st M := rfl
theorem xi_74_1 : am_do xs 74 1 l st M = am_lda (am_lg l 0) 2 l st M := rfl
theorem xi_74_2 : am_do xs 74 2 l st M = am_ldi (am_lg l 1) 3 l st M := rfl
theorem xi_74_3 : am_do xs 74 3 l st M = am_inv 1 2 (.retAddr 7) st M := rfl
theorem xt_74_3 : am_to 74 3 = 86 := rfl
theorem xi_74_6 : am_do xs 74 6 l st M = am_inv 1 2 (.retAddr 7) st M := rfl
theorem xt_74_6 : am_to 74 6 = 99 := rfl
theorem xi_74_9 : am_do xs 74 9 l st M = am_inv 1 1 (.retAddr 0) st M := rfl
theorem xt_74_9 : am_to 74 9 = 8 := rfl
theorem xi_74_12 : am_do xs 74 12 l st M = am_rtd st := rfl
theorem xi_75_0 : am_do xs 75 0 l st M = am_lda (am_lg l 0) 1 l st M := rfl
theorem xi_75_1 : am_do xs 75 1 l st M = am_lda (am_lg l 0) 2 l st M := rfl
theorem xi_75_2 : am_do xs 75 2 l st M = am_ldi (am_lg l 1) 3 l st M := rfl
theorem xi_75_3 : am_do xs 75 3 l st M = am_inv 1 2 (.retAddr 7) st M := rfl
theorem xt_75_3 : am_to 75 3 = 86 := rfl
theorem xi_75_6 : am_do xs 75 6 l st M = am_inv 1 2 (.retAddr 7) st M := rfl
theorem xt_75_6 : am_to 75 6 = 99 := rfl
theorem xi_75_9 : am_do xs 75 9 l st M = am_inv 1 1 (.retAddr 0) st M := rfl
theorem xt_75_9 : am_to 75 9 = 9 := rfl
theorem xi_75_12 : am_do xs 75 12 l st M = am_rtd st := rfl
theorem xi_76_0 : am_do xs 76 0 l st M = am_lda (am_lg l 0) 1 l st M := rfl
theorem xi_76_1 : am_do xs 76 1 l st M = am_ldi (am_lg l 1) 2 l st M := rfl
theorem xi_76_2 : am_do xs 76 2 l st M = am_inv 1 2 (.retAddr 7) st M := rfl
theorem xt_76_2 : am_to 76 2 = 87 := rfl
theorem xi_76_5 : am_do xs 76 5 l st M = am_sta 2 6 l st M := rfl
theorem xi_76_6 : am_do xs 76 6 l st M = am_lda (am_lg l 0) 7 l st M := rfl
theorem xi_76_7 : am_do xs 76 7 l st M = am_lda (am_lg l 2) 8 l st M := rfl
theorem xi_76_8 : am_do xs 76 8 l st M = am_a1 st fun o r => (am_gf (am_f M o) 3 0).bind fun w => am_nx 11 l (w :: r) M := rfl
theorem xi_76_11 : am_do xs 76 11 l st M = am_inv 1 2 (.retAddr 7) st M := rfl
theorem xt_76_11 : am_to 76 11 = 99 := rfl
theorem xi_76_14 : am_do xs 76 14 l st M = am_sta 3 15 l st M := rfl
theorem xi_76_15 : am_do xs 76 15 l st M = am_lda (am_lg l 3) 16 l st M := rfl
theorem xi_76_16 : am_do xs 76 16 l st M = am_inv 1 1 (.retAddr 0) st M := rfl
theorem xt_76_16 : am_to 76 16 = 9 := rfl
theorem xi_76_19 : am_do xs 76 19 l st M = am_lda (am_lg l 3) 20 l st M := rfl
theorem xi_76_20 : am_do xs 76 20 l st M = am_inv 1 1 (.retAddr 0) st M := rfl
theorem xt_76_20 : am_to 76 20 = 8 := rfl
theorem xi_76_23 : am_do xs 76 23 l st M = am_lda (am_lg l 2) 24 l st M := rfl
theorem xi_76_24 : am_do xs 76 24 l st M = am_inv 0 1 (.retAddr 7) st M := rfl
theorem xt_76_24 : am_to 76 24 = 100 := rfl
theorem xi_76_27 : am_do xs 76 27 l st M = am_d2 st fun x y r => am_nx 28 l (.double (FP.dmul x y) :: r) M := rfl
theorem xi_76_28 : am_do xs 76 28 l st M = am_d2 st fun x y r => am_nx 29 l (.double (FP.dadd x y) :: r) M := rfl
theorem xi_76_29 : am_do xs 76 29 l st M = am_d1 st fun x r => am_nx 31 (am_s2 l 4 (.double x)) r M := rfl
theorem xi_76_31 : am_do xs 76 31 l st M = am_lda (am_lg l 0) 32 l st M := rfl
theorem xi_76_32 : am_do xs 76 32 l st M = am_lda (am_lg l 2) 33 l st M := rfl
theorem xi_76_33 : am_do xs 76 33 l st M = am_inv 1 2 (.retAddr 7) st M := rfl
theorem xt_76_33 : am_to 76 33 = 101 := rfl
theorem xi_76_36 : am_do xs 76 36 l st M = am_ldd (am_lg l 4) 38 l st M := rfl
theorem xi_76_38 : am_do xs 76 38 l st M = am_d2 st fun x y r => am_nx 39 l (.double (FP.dsub x y) :: r) M := rfl
theorem xi_76_39 : am_do xs 76 39 l st M = am_rtd st := rfl
theorem xi_77_0 : am_do xs 77 0 l st M = am_lda (am_lg l 0) 1 l st M := rfl
theorem xi_77_1 : am_do xs 77 1 l st M = am_ldi (am_lg l 1) 2 l st M := rfl
theorem xi_77_2 : am_do xs 77 2 l st M = am_inv 1 2 (.retAddr 7) st M := rfl
theorem xt_77_2 : am_to 77 2 = 86 := rfl
theorem xi_77_5 : am_do xs 77 5 l st M = am_sta 2 6 l st M := rfl
theorem xi_77_6 : am_do xs 77 6 l st M = am_lda (am_lg l 0) 7 l st M := rfl
theorem xi_77_7 : am_do xs 77 7 l st M = am_ldi (am_lg l 1) 8 l st M := rfl
theorem xi_77_8 : am_do xs 77 8 l st M = am_nx 9 l (.int 1 :: st) M := rfl
theorem xi_77_9 : am_do xs 77 9 l st M = am_i2 st fun x y r => am_nx 10 l (.int (x - y) :: r) M := rfl
theorem xi_77_10 : am_do xs 77 10 l st M = am_inv 1 2 (.retAddr 7) st M := rfl
theorem xt_77_10 : am_to 77 10 = 86 := rfl
theorem xi_77_13 : am_do xs 77 13 l st M = am_sta 3 14 l st M := rfl
theorem xi_77_14 : am_do xs 77 14 l st M = am_lda (am_lg l 2) 15 l st M := rfl
theorem xi_77_15 : am_do xs 77 15 l st M = am_a1 st fun o r => (am_gf (am_f M o) 4 7).bind fun w => am_nx 18 l (w :: r) M := rfl
theorem xi_77_18 : am_do xs 77 18 l st M = am_sta 4 20 l st M := rfl
theorem xi_77_20 : am_do xs 77 20 l st M = am_lda (am_lg l 3) 21 l st M := rfl
theorem xi_77_21 : am_do xs 77 21 l st M = am_a1 st fun o r => (am_gf (am_f M o) 4 8).bind fun w => am_nx 24 l (w :: r) M := rfl
theorem xi_77_24 : am_do xs 77 24 l st M = am_sta 5 26 l st M := rfl
theorem xi_77_26 : am_do xs 77 26 l st M = am_lda (am_lg l 4) 28 l st M := rfl
theorem xi_77_28 : am_do xs 77 28 l st M = am_nul st 43 31 l M := rfl
theorem xi_77_31 : am_do xs 77 31 l st M = am_lda (am_lg l 5) 33 l st M := rfl
theorem xi_77_33 : am_do xs 77 33 l st M = am_nul st 43 36 l M := rfl
theorem xi_77_36 : am_do xs 77 36 l st M = am_lda (am_lg l 3) 37 l st M := rfl
theorem xi_77_37 : am_do xs 77 37 l st M = am_inv 1 1 (.retAddr 4) st M := rfl
theorem xt_77_37 : am_to 77 37 = 20 := rfl
theorem xi_77_40 : am_do xs 77 40 l st M = am_i1 st fun x r => am_nx (if ¬ x = 0 then 54 else 43) l r M := rfl
theorem xi_77_43 : am_do xs 77 43 l st M = if am_wt st ≤ 8 then some (.inr (.inr (.inl 101))) else none := rfl
theorem xi_77_46 : am_do xs 77 46 l st M = am_dup st 47 l M := rfl
theorem xi_77_54 : am_do xs 77 54 l st M = am_lda (am_lg l 0) 55 l st M := rfl
theorem xi_77_55 : am_do xs 77 55 l st M = am_lda (am_lg l 5) 57 l st M := rfl
theorem xi_77_57 : am_do xs 77 57 l st M = am_inv 1 2 (.retAddr 7) st M := rfl
theorem xt_77_57 : am_to 77 57 = 97 := rfl
theorem xi_77_60 : am_do xs 77 60 l st M = am_lda (am_lg l 3) 61 l st M := rfl
theorem xi_77_61 : am_do xs 77 61 l st M = am_inv 0 1 (.retAddr 7) st M := rfl
theorem xt_77_61 : am_to 77 61 = 102 := rfl
theorem xi_77_64 : am_do xs 77 64 l st M = am_lda (am_lg l 4) 66 l st M := rfl
theorem xi_77_66 : am_do xs 77 66 l st M = am_a1 st fun o r => (am_gf (am_f M o) 3 1).bind fun w => am_nx 69 l (w :: r) M := rfl
theorem xi_77_69 : am_do xs 77 69 l st M = am_lda (am_lg l 5) 71 l st M := rfl
theorem xi_77_71 : am_do xs 77 71 l st M = am_a1 st fun o r => (am_gf (am_f M o) 3 1).bind fun w => am_nx 74 l (w :: r) M := rfl
theorem xi_77_74 : am_do xs 77 74 l st M = am_i2 st fun x y r => am_nx 75 l (.int (x - y) :: r) M := rfl
theorem xi_77_75 : am_do xs 77 75 l st M = am_i1 st fun x r => am_nx 76 l (.long x.toInt64 :: r) M := rfl
theorem xi_77_76 : am_do xs 77 76 l st M = am_j2 st fun x y r => am_nx 77 l (.long (x * y) :: r) M := rfl
theorem xi_77_77 : am_do xs 77 77 l st M = am_j2 st fun x y r => am_nx 78 l (.long (x + y) :: r) M := rfl
theorem xi_77_78 : am_do xs 77 78 l st M = am_j1 st fun x r => am_nx 80 (am_s2 l 6 (.long x)) r M := rfl
theorem xi_77_80 : am_do xs 77 80 l st M = am_lda (am_lg l 0) 81 l st M := rfl
theorem xi_77_81 : am_do xs 77 81 l st M = am_lda (am_lg l 4) 83 l st M := rfl
theorem xi_77_83 : am_do xs 77 83 l st M = am_a1 st fun o r => (am_gf (am_f M o) 3 5).bind fun w => am_nx 86 l (w :: r) M := rfl
theorem xi_77_86 : am_do xs 77 86 l st M = am_inv 1 1 (.retAddr 5) st M := rfl
theorem xt_77_86 : am_to 77 86 = 23 := rfl
theorem xi_77_89 : am_do xs 77 89 l st M = am_lda (am_lg l 2) 90 l st M := rfl
theorem xi_77_90 : am_do xs 77 90 l st M = am_nx 91 l (.long 0 :: st) M := rfl
theorem xi_77_91 : am_do xs 77 91 l st M = am_inv 1 4 (.retAddr 7) st M := rfl
theorem xt_77_91 : am_to 77 91 = 92 := rfl
theorem xi_77_94 : am_do xs 77 94 l st M = am_j1 st fun x r => am_nx 96 (am_s2 l 8 (.long x)) r M := rfl
theorem xi_77_96 : am_do xs 77 96 l st M = am_lda (am_lg l 2) 97 l st M := rfl
theorem xi_77_97 : am_do xs 77 97 l st M = am_lda (am_lg l 2) 98 l st M := rfl
theorem xi_77_98 : am_do xs 77 98 l st M = am_a1 st fun o r => (am_gf (am_f M o) 4 3).bind fun w => am_nx 101 l (w :: r) M := rfl
theorem xi_77_101 : am_do xs 77 101 l st M = am_ldj (am_lg l 6) 103 l st M := rfl
theorem xi_77_103 : am_do xs 77 103 l st M = am_ldj (am_lg l 8) 105 l st M := rfl
theorem xi_77_105 : am_do xs 77 105 l st M = am_j2 st fun x y r => am_nx 106 l (.long (x - y) :: r) M := rfl
theorem xi_77_106 : am_do xs 77 106 l st M = am_inv 0 2 (.retAddr 7) st M := rfl
theorem xt_77_106 : am_to 77 106 = 89 := rfl
theorem xi_77_109 : am_do xs 77 109 l st M = am_put st 4 10 1 112 l M := rfl
theorem xi_77_112 : am_do xs 77 112 l st M = am_lda (am_lg l 2) 113 l st M := rfl
theorem xi_77_113 : am_do xs 77 113 l st M = am_nx 114 l (.int 1 :: st) M := rfl
theorem xi_77_114 : am_do xs 77 114 l st M = am_put st 4 11 2 117 l M := rfl
theorem xi_77_117 : am_do xs 77 117 l st M = am_lda (am_lg l 2) 118 l st M := rfl
theorem xi_77_118 : am_do xs 77 118 l st M = am_a1 st fun o r => (am_gf (am_f M o) 4 10).bind fun w => am_nx 121 l (w :: r) M := rfl
theorem xi_77_121 : am_do xs 77 121 l st M = am_rtj st := rfl
theorem xi_78_0 : am_do xs 78 0 l st M = am_lda (am_lg l 0) 1 l st M := rfl
theorem xi_78_1 : am_do xs 78 1 l st M = am_ldi (am_lg l 1) 2 l st M := rfl
theorem xi_78_2 : am_do xs 78 2 l st M = am_inv 1 2 (.retAddr 7) st M := rfl
theorem xt_78_2 : am_to 78 2 = 86 := rfl
theorem xi_78_5 : am_do xs 78 5 l st M = am_a1 st fun o r => (am_gf (am_f M o) 4 10).bind fun w => am_nx 8 l (w :: r) M := rfl
theorem xi_78_8 : am_do xs 78 8 l st M = am_rtj st := rfl
theorem xi_79_0 : am_do xs 79 0 l st M = am_nx 1 l (.int 0 :: st) M := rfl
theorem xi_79_1 : am_do xs 79 1 l st M = am_i1 st fun x r => am_nx 2 (am_s1 l 1 (.int x)) r M := rfl
theorem xi_79_2 : am_do xs 79 2 l st M = am_nx 3 l (.int 0 :: st) M := rfl
theorem xi_79_3 : am_do xs 79 3 l st M = am_i1 st fun x r => am_nx 4 (am_s1 l 2 (.int x)) r M := rfl
theorem xi_79_4 : am_do xs 79 4 l st M = am_nx 5 l (.int 0 :: st) M := rfl
theorem xi_79_5 : am_do xs 79 5 l st M = am_i1 st fun x r => am_nx 6 (am_s1 l 3 (.int x)) r M := rfl
theorem xi_79_6 : am_do xs 79 6 l st M = am_ldi (am_lg l 3) 7 l st M := rfl
theorem xi_79_7 : am_do xs 79 7 l st M = am_lda (am_lg l 0) 8 l st M := rfl
theorem xi_79_8 : am_do xs 79 8 l st M = am_a1 st fun o r => (am_gf (am_f M o) 7 10).bind fun w => am_nx 11 l (w :: r) M := rfl
theorem xi_79_11 : am_do xs 79 11 l st M = am_aln xs st 12 l M := rfl
theorem xi_79_12 : am_do xs 79 12 l st M = am_i2 st fun x y r => am_nx (if y ≤ x then 56 else 15) l r M := rfl
theorem xi_79_15 : am_do xs 79 15 l st M = am_lda (am_lg l 0) 16 l st M := rfl
theorem xi_79_16 : am_do xs 79 16 l st M = am_a1 st fun o r => (am_gf (am_f M o) 7 10).bind fun w => am_nx 19 l (w :: r) M := rfl
theorem xi_79_19 : am_do xs 79 19 l st M = am_ldi (am_lg l 3) 20 l st M := rfl
theorem xi_79_20 : am_do xs 79 20 l st M = am_ia st fun i o r => (am_aa (am_f M o) i).bind fun w => am_nx 21 l (w :: r) M := rfl
theorem xi_79_21 : am_do xs 79 21 l st M = am_nul st 56 24 l M := rfl
theorem xi_79_24 : am_do xs 79 24 l st M = am_lda (am_lg l 0) 25 l st M := rfl
theorem xi_79_25 : am_do xs 79 25 l st M = am_a1 st fun o r => (am_gf (am_f M o) 7 10).bind fun w => am_nx 28 l (w :: r) M := rfl
theorem xi_79_28 : am_do xs 79 28 l st M = am_ldi (am_lg l 3) 29 l st M := rfl
theorem xi_79_29 : am_do xs 79 29 l st M = am_ia st fun i o r => (am_aa (am_f M o) i).bind fun w => am_nx 30 l (w :: r) M := rfl
theorem xi_79_30 : am_do xs 79 30 l st M = am_a1 st fun o r => (am_gf (am_f M o) 4 11).bind fun w => am_nx 33 l (w :: r) M := rfl
theorem xi_79_33 : am_do xs 79 33 l st M = am_i1 st fun x r => am_nx (if x = 0 then 42 else 36) l r M := rfl
theorem xi_79_36 : am_do xs 79 36 l st M = am_ldi (am_lg l 2) 37 l st M := rfl
theorem xi_79_37 : am_do xs 79 37 l st M = am_nx 38 l (.int 1 :: st) M := rfl
theorem xi_79_38 : am_do xs 79 38 l st M = am_i2 st fun x y r => am_nx 39 l (.int (x + y) :: r) M := rfl
theorem xi_79_39 : am_do xs 79 39 l st M = am_nx 43 l st M := rfl
theorem xi_79_42 : am_do xs 79 42 l st M = am_nx 43 l (.int 1 :: st) M := rfl
theorem xi_79_43 : am_do xs 79 43 l st M = am_i1 st fun x r => am_nx 44 (am_s1 l 2 (.int x)) r M := rfl
theorem xi_79_44 : am_do xs 79 44 l st M = am_ldi (am_lg l 1) 45 l st M := rfl
theorem xi_79_45 : am_do xs 79 45 l st M = am_ldi (am_lg l 2) 46 l st M := rfl
theorem xi_79_46 : am_do xs 79 46 l st M = am_inv 0 2 (.retAddr 100) st M := rfl
theorem xt_79_46 : am_to 79 46 = 3 := rfl
theorem xi_79_49 : am_do xs 79 49 l st M = am_i1 st fun x r => am_nx 50 (am_s1 l 1 (.int x)) r M := rfl
theorem xi_79_50 : am_do xs 79 50 l st M = am_inc (am_lg l 3) 3 1 53 l st M := rfl
theorem xi_79_53 : am_do xs 79 53 l st M = am_nx 6 l st M := rfl
theorem xi_79_56 : am_do xs 79 56 l st M = am_ldi (am_lg l 1) 57 l st M := rfl
theorem xi_79_57 : am_do xs 79 57 l st M = am_rti st 0 := rfl
theorem xi_80_0 : am_do xs 80 0 l st M = am_ldj (am_lg l 0) 1 l st M := rfl
theorem xi_80_1 : am_do xs 80 1 l st M = am_ldj (am_lg l 2) 2 l st M := rfl
theorem xi_80_2 : am_do xs 80 2 l st M = am_j2 st fun x y r => am_nx 3 l (.int (lg_cmp x y) :: r) M := rfl
theorem xi_80_3 : am_do xs 80 3 l st M = am_i1 st fun x r => am_nx (if x < 0 then 13 else 6) l r M := rfl
theorem xi_80_6 : am_do xs 80 6 l st M = am_ldj (am_lg l 0) 7 l st M := rfl
theorem xi_80_7 : am_do xs 80 7 l st M = am_ldj (am_lg l 4) 9 l st M := rfl
theorem xi_80_9 : am_do xs 80 9 l st M = am_j2 st fun x y r => am_nx 10 l (.int (lg_cmp x y) :: r) M := rfl
theorem xi_80_10 : am_do xs 80 10 l st M = am_i1 st fun x r => am_nx (if x ≤ 0 then 24 else 13) l r M := rfl
theorem xi_80_13 : am_do xs 80 13 l st M = if am_wt st ≤ 8 then some (.inr (.inr (.inl 100))) else none := rfl
theorem xi_80_16 : am_do xs 80 16 l st M = am_dup st 17 l M := rfl
theorem xi_80_24 : am_do xs 80 24 l st M = am_rtv st := rfl
theorem xi_81_0 : am_do xs 81 0 l st M = am_ldi (am_lg l 1) 1 l st M := rfl
theorem xi_81_1 : am_do xs 81 1 l st M = am_i1 st fun x r => am_nx (if x < 0 then 10 else 4) l r M := rfl
theorem xi_81_4 : am_do xs 81 4 l st M = am_ldi (am_lg l 1) 5 l st M := rfl
theorem xi_81_5 : am_do xs 81 5 l st M = am_lda (am_lg l 0) 6 l st M := rfl
theorem xi_81_6 : am_do xs 81 6 l st M = am_aln xs st 7 l M := rfl
theorem xi_81_7 : am_do xs 81 7 l st M = am_i2 st fun x y r => am_nx (if x < y then 21 else 10) l r M := rfl
theorem xi_81_10 : am_do xs 81 10 l st M = if am_wt st ≤ 8 then some (.inr (.inr (.inl 102))) else none := rfl
theorem xi_81_13 : am_do xs 81 13 l st M = am_dup st 14 l M := rfl
theorem xi_81_21 : am_do xs 81 21 l st M = am_rtv st := rfl
theorem xi_82_0 : am_do xs 82 0 l st M = am_lda (am_lg l 0) 1 l st M := rfl
theorem xi_82_1 : am_do xs 82 1 l st M = am_a1 st fun o r => (am_gf (am_f M o) 7 7).bind fun w => am_nx 4 l (w :: r) M := rfl
theorem xi_82_4 : am_do xs 82 4 l st M = am_aln xs st 5 l M := rfl
theorem xi_82_5 : am_do xs 82 5 l st M = am_i1 st fun x r => am_nx (if ¬ x = 0 then 19 else 8) l r M := rfl
theorem xi_82_8 : am_do xs 82 8 l st M = if am_wt st ≤ 8 then some (.inr (.inr (.inl 101))) else none := rfl
theorem xi_82_11 : am_do xs 82 11 l st M = am_dup st 12 l M := rfl
theorem xi_82_19 : am_do xs 82 19 l st M = am_rtv st := rfl
theorem xi_83_0 : am_do xs 83 0 l st M = am_lda (am_lg l 0) 1 l st M := rfl
theorem xi_83_1 : am_do xs 83 1 l st M = am_a1 st fun o r => (am_gf (am_f M o) 7 12).bind fun w => am_nx 4 l (w :: r) M := rfl
theorem xi_83_4 : am_do xs 83 4 l st M = am_nul st 18 7 l M := rfl
theorem xi_83_7 : am_do xs 83 7 l st M = if am_wt st ≤ 8 then some (.inr (.inr (.inl 101))) else none := rfl
theorem xi_83_10 : am_do xs 83 10 l st M = am_dup st 11 l M := rfl
theorem xi_83_18 : am_do xs 83 18 l st M = am_rtv st := rfl
theorem xi_84_0 : am_do xs 84 0 l st M = am_lda (am_lg l 0) 1 l st M := rfl
theorem xi_84_1 : am_do xs 84 1 l st M = am_a1 st fun o r => (am_gf (am_f M o) 7 12).bind fun w => am_nx 4 l (w :: r) M := rfl
theorem xi_84_4 : am_do xs 84 4 l st M = am_nul st 7 18 l M := rfl
theorem xi_84_7 : am_do xs 84 7 l st M = if am_wt st ≤ 8 then some (.inr (.inr (.inl 101))) else none := rfl
theorem xi_84_10 : am_do xs 84 10 l st M = am_dup st 11 l M := rfl
theorem xi_84_18 : am_do xs 84 18 l st M = am_lda (am_lg l 0) 19 l st M := rfl
theorem xi_84_19 : am_do xs 84 19 l st M = am_a1 st fun o r => (am_gf (am_f M o) 7 12).bind fun w => am_nx 22 l (w :: r) M := rfl
theorem xi_84_22 : am_do xs 84 22 l st M = am_rta st := rfl
theorem xi_85_0 : am_do xs 85 0 l st M = am_ldi (am_lg l 1) 1 l st M := rfl
theorem xi_85_1 : am_do xs 85 1 l st M = am_i1 st fun x r => am_nx (if x < 0 then 13 else 4) l r M := rfl
theorem xi_85_4 : am_do xs 85 4 l st M = am_ldi (am_lg l 1) 5 l st M := rfl
theorem xi_85_5 : am_do xs 85 5 l st M = am_lda (am_lg l 0) 6 l st M := rfl
theorem xi_85_6 : am_do xs 85 6 l st M = am_a1 st fun o r => (am_gf (am_f M o) 7 3).bind fun w => am_nx 9 l (w :: r) M := rfl
theorem xi_85_9 : am_do xs 85 9 l st M = am_aln xs st 10 l M := rfl
theorem xi_85_10 : am_do xs 85 10 l st M = am_i2 st fun x y r => am_nx (if x < y then 24 else 13) l r M := rfl
theorem xi_85_13 : am_do xs 85 13 l st M = if am_wt st ≤ 8 then some (.inr (.inr (.inl 100))) else none := rfl
theorem xi_85_16 : am_do xs 85 16 l st M = am_dup st 17 l M := rfl
theorem xi_85_24 : am_do xs 85 24 l st M = am_lda (am_lg l 0) 25 l st M := rfl
theorem xi_85_25 : am_do xs 85 25 l st M = am_a1 st fun o r => (am_gf (am_f M o) 7 3).bind fun w => am_nx 28 l (w :: r) M := rfl
theorem xi_85_28 : am_do xs 85 28 l st M = am_ldi (am_lg l 1) 29 l st M := rfl
theorem xi_85_29 : am_do xs 85 29 l st M = am_ia st fun i o r => (am_aa (am_f M o) i).bind fun w => am_nx 30 l (w :: r) M := rfl
theorem xi_85_30 : am_do xs 85 30 l st M = am_rta st := rfl
theorem xi_86_0 : am_do xs 86 0 l st M = am_ldi (am_lg l 1) 1 l st M := rfl
theorem xi_86_1 : am_do xs 86 1 l st M = am_i1 st fun x r => am_nx (if x < 0 then 22 else 4) l r M := rfl
theorem xi_86_4 : am_do xs 86 4 l st M = am_ldi (am_lg l 1) 5 l st M := rfl
theorem xi_86_5 : am_do xs 86 5 l st M = am_lda (am_lg l 0) 6 l st M := rfl
theorem xi_86_6 : am_do xs 86 6 l st M = am_a1 st fun o r => (am_gf (am_f M o) 7 10).bind fun w => am_nx 9 l (w :: r) M := rfl
theorem xi_86_9 : am_do xs 86 9 l st M = am_aln xs st 10 l M := rfl
theorem xi_86_10 : am_do xs 86 10 l st M = am_i2 st fun x y r => am_nx (if y ≤ x then 22 else 13) l r M := rfl
theorem xi_86_13 : am_do xs 86 13 l st M = am_lda (am_lg l 0) 14 l st M := rfl
theorem xi_86_14 : am_do xs 86 14 l st M = am_a1 st fun o r => (am_gf (am_f M o) 7 10).bind fun w => am_nx 17 l (w :: r) M := rfl
theorem xi_86_17 : am_do xs 86 17 l st M = am_ldi (am_lg l 1) 18 l st M := rfl
theorem xi_86_18 : am_do xs 86 18 l st M = am_ia st fun i o r => (am_aa (am_f M o) i).bind fun w => am_nx 19 l (w :: r) M := rfl
theorem xi_86_19 : am_do xs 86 19 l st M = am_nul st 22 33 l M := rfl
theorem xi_86_22 : am_do xs 86 22 l st M = if am_wt st ≤ 8 then some (.inr (.inr (.inl 102))) else none := rfl
theorem xi_86_25 : am_do xs 86 25 l st M = am_dup st 26 l M := rfl
theorem xi_86_33 : am_do xs 86 33 l st M = am_lda (am_lg l 0) 34 l st M := rfl
theorem xi_86_34 : am_do xs 86 34 l st M = am_a1 st fun o r => (am_gf (am_f M o) 7 10).bind fun w => am_nx 37 l (w :: r) M := rfl
theorem xi_86_37 : am_do xs 86 37 l st M = am_ldi (am_lg l 1) 38 l st M := rfl
theorem xi_86_38 : am_do xs 86 38 l st M = am_ia st fun i o r => (am_aa (am_f M o) i).bind fun w => am_nx 39 l (w :: r) M := rfl
theorem xi_86_39 : am_do xs 86 39 l st M = am_rta st := rfl
theorem xi_87_0 : am_do xs 87 0 l st M = am_ldi (am_lg l 1) 1 l st M := rfl
theorem xi_87_1 : am_do xs 87 1 l st M = am_i1 st fun x r => am_nx (if x < 0 then 22 else 4) l r M := rfl
theorem xi_87_4 : am_do xs 87 4 l st M = am_ldi (am_lg l 1) 5 l st M := rfl
theorem xi_87_5 : am_do xs 87 5 l st M = am_lda (am_lg l 0) 6 l st M := rfl
theorem xi_87_6 : am_do xs 87 6 l st M = am_a1 st fun o r => (am_gf (am_f M o) 7 13).bind fun w => am_nx 9 l (w :: r) M := rfl
theorem xi_87_9 : am_do xs 87 9 l st M = am_aln xs st 10 l M := rfl
theorem xi_87_10 : am_do xs 87 10 l st M = am_i2 st fun x y r => am_nx (if y ≤ x then 22 else 13) l r M := rfl
theorem xi_87_13 : am_do xs 87 13 l st M = am_lda (am_lg l 0) 14 l st M := rfl
theorem xi_87_14 : am_do xs 87 14 l st M = am_a1 st fun o r => (am_gf (am_f M o) 7 13).bind fun w => am_nx 17 l (w :: r) M := rfl
theorem xi_87_17 : am_do xs 87 17 l st M = am_ldi (am_lg l 1) 18 l st M := rfl
theorem xi_87_18 : am_do xs 87 18 l st M = am_ia st fun i o r => (am_aa (am_f M o) i).bind fun w => am_nx 19 l (w :: r) M := rfl
theorem xi_87_19 : am_do xs 87 19 l st M = am_nul st 22 33 l M := rfl
theorem xi_87_22 : am_do xs 87 22 l st M = if am_wt st ≤ 8 then some (.inr (.inr (.inl 102))) else none := rfl
theorem xi_87_25 : am_do xs 87 25 l st M = am_dup st 26 l M := rfl
theorem xi_87_33 : am_do xs 87 33 l st M = am_lda (am_lg l 0) 34 l st M := rfl
theorem xi_87_34 : am_do xs 87 34 l st M = am_a1 st fun o r => (am_gf (am_f M o) 7 13).bind fun w => am_nx 37 l (w :: r) M := rfl
theorem xi_87_37 : am_do xs 87 37 l st M = am_ldi (am_lg l 1) 38 l st M := rfl
theorem xi_87_38 : am_do xs 87 38 l st M = am_ia st fun i o r => (am_aa (am_f M o) i).bind fun w => am_nx 39 l (w :: r) M := rfl
theorem xi_87_39 : am_do xs 87 39 l st M = am_rta st := rfl
theorem xi_88_0 : am_do xs 88 0 l st M = am_ldj (am_lg l 2) 1 l st M := rfl
theorem xi_88_1 : am_do xs 88 1 l st M = am_nx 2 l (.long 0 :: st) M := rfl
theorem xi_88_2 : am_do xs 88 2 l st M = am_j2 st fun x y r => am_nx 3 l (.int (lg_cmp x y) :: r) M := rfl
theorem xi_88_3 : am_do xs 88 3 l st M = am_i1 st fun x r => am_nx (if 0 < x then 10 else 6) l r M := rfl
theorem xi_88_6 : am_do xs 88 6 l st M = am_nx 7 l (.long 0 :: st) M := rfl
theorem xi_88_7 : am_do xs 88 7 l st M = am_nx 15 l st M := rfl
theorem xi_88_10 : am_do xs 88 10 l st M = am_ldj (am_lg l 0) 11 l st M := rfl
theorem xi_88_11 : am_do xs 88 11 l st M = am_ldj (am_lg l 2) 12 l st M := rfl
theorem xi_88_12 : am_do xs 88 12 l st M = am_inv 0 2 (.retAddr 100) st M := rfl
theorem xt_88_12 : am_to 88 12 = 1 := rfl
theorem xi_88_15 : am_do xs 88 15 l st M = am_rtj st := rfl
theorem xi_89_0 : am_do xs 89 0 l st M = am_ldj (am_lg l 0) 1 l st M := rfl
theorem xi_89_1 : am_do xs 89 1 l st M = am_nx 2 l (.long 0 :: st) M := rfl
theorem xi_89_2 : am_do xs 89 2 l st M = am_j2 st fun x y r => am_nx 3 l (.int (lg_cmp x y) :: r) M := rfl
theorem xi_89_3 : am_do xs 89 3 l st M = am_i1 st fun x r => am_nx (if 0 < x then 10 else 6) l r M := rfl
theorem xi_89_6 : am_do xs 89 6 l st M = am_nx 7 l (.long 0 :: st) M := rfl
theorem xi_89_7 : am_do xs 89 7 l st M = am_nx 25 l st M := rfl
theorem xi_89_10 : am_do xs 89 10 l st M = am_nx 13 l (.long 2 :: st) M := rfl
theorem xi_89_13 : am_do xs 89 13 l st M = am_ldj (am_lg l 2) 14 l st M := rfl
theorem xi_89_14 : am_do xs 89 14 l st M = am_j2 st fun x y r => am_nx 15 l (.long (x * y) :: r) M := rfl
theorem xi_89_15 : am_do xs 89 15 l st M = am_ldj (am_lg l 0) 16 l st M := rfl
theorem xi_89_16 : am_do xs 89 16 l st M = am_j2 st fun x y r => am_nx 17 l (.long (x + y) :: r) M := rfl
theorem xi_89_17 : am_do xs 89 17 l st M = am_nx 20 l (.long 2 :: st) M := rfl
theorem xi_89_20 : am_do xs 89 20 l st M = am_ldj (am_lg l 0) 21 l st M := rfl
theorem xi_89_21 : am_do xs 89 21 l st M = am_j2 st fun x y r => am_nx 22 l (.long (x * y) :: r) M := rfl
theorem xi_89_22 : am_do xs 89 22 l st M = am_inv 0 2 (.retAddr 100) st M := rfl
theorem xt_89_22 : am_to 89 22 = 1 := rfl
theorem xi_89_25 : am_do xs 89 25 l st M = am_rtj st := rfl
theorem xi_90_0 : am_do xs 90 0 l st M = am_lda (am_lg l 1) 1 l st M := rfl
theorem xi_90_1 : am_do xs 90 1 l st M = am_a1 st fun o r => (am_gf (am_f M o) 6 3).bind fun w => am_nx 4 l (w :: r) M := rfl
theorem xi_90_4 : am_do xs 90 4 l st M = am_i1 st fun x r => am_nx (if ¬ x = 0 then 44 else 7) l r M := rfl
theorem xi_90_7 : am_do xs 90 7 l st M = am_lda (am_lg l 0) 8 l st M := rfl
theorem xi_90_8 : am_do xs 90 8 l st M = am_a1 st fun o r => (am_gf (am_f M o) 7 5).bind fun w => am_nx 11 l (w :: r) M := rfl
theorem xi_90_11 : am_do xs 90 11 l st M = am_lda (am_lg l 0) 12 l st M := rfl
theorem xi_90_12 : am_do xs 90 12 l st M = am_a1 st fun o r => (am_gf (am_f M o) 7 4).bind fun w => am_nx 15 l (w :: r) M := rfl
theorem xi_90_15 : am_do xs 90 15 l st M = am_aln xs st 16 l M := rfl
theorem xi_90_16 : am_do xs 90 16 l st M = am_i2 st fun x y r => am_nx (if y ≤ x then 44 else 19) l r M := rfl
theorem xi_90_19 : am_do xs 90 19 l st M = am_lda (am_lg l 0) 20 l st M := rfl
theorem xi_90_20 : am_do xs 90 20 l st M = am_a1 st fun o r => (am_gf (am_f M o) 7 4).bind fun w => am_nx 23 l (w :: r) M := rfl
theorem xi_90_23 : am_do xs 90 23 l st M = am_lda (am_lg l 0) 24 l st M := rfl
theorem xi_90_24 : am_do xs 90 24 l st M = am_a1 st fun o r => (am_gf (am_f M o) 7 5).bind fun w => am_nx 27 l (w :: r) M := rfl
theorem xi_90_27 : am_do xs 90 27 l st M = am_lda (am_lg l 1) 28 l st M := rfl
theorem xi_90_28 : am_do xs 90 28 l st M = am_aas st 29 l M := rfl
theorem xi_90_29 : am_do xs 90 29 l st M = am_lda (am_lg l 0) 30 l st M := rfl
theorem xi_90_30 : am_do xs 90 30 l st M = am_dup st 31 l M := rfl
theorem xi_90_31 : am_do xs 90 31 l st M = am_a1 st fun o r => (am_gf (am_f M o) 7 5).bind fun w => am_nx 34 l (w :: r) M := rfl
theorem xi_90_34 : am_do xs 90 34 l st M = am_nx 35 l (.int 1 :: st) M := rfl
theorem xi_90_35 : am_do xs 90 35 l st M = am_i2 st fun x y r => am_nx 36 l (.int (x + y) :: r) M := rfl
theorem xi_90_36 : am_do xs 90 36 l st M = am_put st 7 5 0 39 l M := rfl
theorem xi_90_39 : am_do xs 90 39 l st M = am_lda (am_lg l 1) 40 l st M := rfl
theorem xi_90_40 : am_do xs 90 40 l st M = am_nx 41 l (.int 1 :: st) M := rfl
theorem xi_90_41 : am_do xs 90 41 l st M = am_put st 6 3 2 44 l M := rfl
theorem xi_90_44 : am_do xs 90 44 l st M = am_rtv st := rfl
theorem xi_91_0 : am_do xs 91 0 l st M = am_lda (am_lg l 0) 1 l st M := rfl
theorem xi_91_1 : am_do xs 91 1 l st M = am_a1 st fun o r => (am_gf (am_f M o) 7 0).bind fun w => am_nx 4 l (w :: r) M := rfl
theorem xi_91_4 : am_do xs 91 4 l st M = am_a1 st fun o r => (am_gf (am_f M o) 1 0).bind fun w => am_nx 7 l (w :: r) M := rfl
theorem xi_91_7 : am_do xs 91 7 l st M = am_lda (am_lg l 1) 8 l st M := rfl
theorem xi_91_8 : am_do xs 91 8 l st M = am_a1 st fun o r => (am_gf (am_f M o) 4 4).bind fun w => am_nx 11 l (w :: r) M := rfl
theorem xi_91_11 : am_do xs 91 11 l st M = am_i1 st fun x r => am_nx 12 l (.long x.toInt64 :: r) M := rfl
theorem xi_91_12 : am_do xs 91 12 l st M = am_inv 0 2 (.retAddr 7) st M := rfl
theorem xt_91_12 : am_to 91 12 = 88 := rfl
theorem xi_91_15 : am_do xs 91 15 l st M = am_lda (am_lg l 1) 16 l st M := rfl
theorem xi_91_16 : am_do xs 91 16 l st M = am_a1 st fun o r => (am_gf (am_f M o) 4 5).bind fun w => am_nx 19 l (w :: r) M := rfl
theorem xi_91_19 : am_do xs 91 19 l st M = am_j2 st fun x y r => am_nx 20 l (.long (x - y) :: r) M := rfl
theorem xi_91_20 : am_do xs 91 20 l st M = am_lda (am_lg l 1) 21 l st M := rfl
theorem xi_91_21 : am_do xs 91 21 l st M = am_a1 st fun o r => (am_gf (am_f M o) 4 6).bind fun w => am_nx 24 l (w :: r) M := rfl
theorem xi_91_24 : am_do xs 91 24 l st M = am_j2 st fun x y r => am_nx 25 l (.long (x + y) :: r) M := rfl
theorem xi_91_25 : am_do xs 91 25 l st M = am_rtj st := rfl
theorem xi_92_0 : am_do xs 92 0 l st M = am_ldj (am_lg l 1) 1 l st M := rfl
theorem xi_92_1 : am_do xs 92 1 l st M = am_lda (am_lg l 3) 2 l st M := rfl
theorem xi_92_2 : am_do xs 92 2 l st M = am_a1 st fun o r => (am_gf (am_f M o) 4 1).bind fun w => am_nx 5 l (w :: r) M := rfl
theorem xi_92_5 : am_do xs 92 5 l st M = am_a1 st fun o r => (am_gf (am_f M o) 6 2).bind fun w => am_nx 8 l (w :: r) M := rfl
theorem xi_92_8 : am_do xs 92 8 l st M = am_j2 st fun x y r => am_nx 9 l (.long (x - y) :: r) M := rfl
theorem xi_92_9 : am_do xs 92 9 l st M = am_j1 st fun x r => am_nx 11 (am_s2 l 6 (.long x)) r M := rfl
theorem xi_92_11 : am_do xs 92 11 l st M = am_lda (am_lg l 3) 12 l st M := rfl
theorem xi_92_12 : am_do xs 92 12 l st M = am_a1 st fun o r => (am_gf (am_f M o) 4 3).bind fun w => am_nx 15 l (w :: r) M := rfl
theorem xi_92_15 : am_do xs 92 15 l st M = am_lda (am_lg l 0) 16 l st M := rfl
theorem xi_92_16 : am_do xs 92 16 l st M = am_a1 st fun o r => (am_gf (am_f M o) 7 15).bind fun w => am_nx 19 l (w :: r) M := rfl
theorem xi_92_19 : am_do xs 92 19 l st M = am_ldj (am_lg l 6) 21 l st M := rfl
theorem xi_92_21 : am_do xs 92 21 l st M = am_j2 st fun x y r => am_nx 22 l (.long (x - y) :: r) M := rfl
theorem xi_92_22 : am_do xs 92 22 l st M = am_inv 0 2 (.retAddr 7) st M := rfl
theorem xt_92_22 : am_to 92 22 = 89 := rfl
theorem xi_92_25 : am_do xs 92 25 l st M = am_j1 st fun x r => am_nx 27 (am_s2 l 8 (.long x)) r M := rfl
theorem xi_92_27 : am_do xs 92 27 l st M = am_ldj (am_lg l 6) 29 l st M := rfl
theorem xi_92_29 : am_do xs 92 29 l st M = am_ldj (am_lg l 8) 31 l st M := rfl
theorem xi_92_31 : am_do xs 92 31 l st M = am_lda (am_lg l 3) 32 l st M := rfl
theorem xi_92_32 : am_do xs 92 32 l st M = am_a1 st fun o r => (am_gf (am_f M o) 4 3).bind fun w => am_nx 35 l (w :: r) M := rfl
theorem xi_92_35 : am_do xs 92 35 l st M = am_j2 st fun x y r => am_nx 36 l (.long (x * y) :: r) M := rfl
theorem xi_92_36 : am_do xs 92 36 l st M = am_j2 st fun x y r => am_nx 37 l (.long (x + y) :: r) M := rfl
theorem xi_92_37 : am_do xs 92 37 l st M = am_ldj (am_lg l 4) 39 l st M := rfl
theorem xi_92_39 : am_do xs 92 39 l st M = am_lda (am_lg l 3) 40 l st M := rfl
theorem xi_92_40 : am_do xs 92 40 l st M = am_a1 st fun o r => (am_gf (am_f M o) 4 3).bind fun w => am_nx 43 l (w :: r) M := rfl
theorem xi_92_43 : am_do xs 92 43 l st M = am_j2 st fun x y r => am_nx 44 l (.long (x * y) :: r) M := rfl
theorem xi_92_44 : am_do xs 92 44 l st M = am_j2 st fun x y r => am_nx 45 l (.long (x + y) :: r) M := rfl
theorem xi_92_45 : am_do xs 92 45 l st M = am_rtj st := rfl
theorem xi_93_0 : am_do xs 93 0 l st M = am_lda (am_lg l 1) 1 l st M := rfl
theorem xi_93_1 : am_do xs 93 1 l st M = am_a1 st fun o r => (am_gf (am_f M o) 3 0).bind fun w => am_nx 4 l (w :: r) M := rfl
theorem xi_93_4 : am_do xs 93 4 l st M = am_sta 2 5 l st M := rfl
theorem xi_93_5 : am_do xs 93 5 l st M = am_lda (am_lg l 0) 6 l st M := rfl
theorem xi_93_6 : am_do xs 93 6 l st M = am_lda (am_lg l 1) 7 l st M := rfl
theorem xi_93_7 : am_do xs 93 7 l st M = am_a1 st fun o r => (am_gf (am_f M o) 3 5).bind fun w => am_nx 10 l (w :: r) M := rfl
theorem xi_93_10 : am_do xs 93 10 l st M = am_inv 1 1 (.retAddr 5) st M := rfl
theorem xt_93_10 : am_to 93 10 = 23 := rfl
theorem xi_93_13 : am_do xs 93 13 l st M = am_lda (am_lg l 2) 14 l st M := rfl
theorem xi_93_14 : am_do xs 93 14 l st M = am_lda (am_lg l 2) 15 l st M := rfl
theorem xi_93_15 : am_do xs 93 15 l st M = am_a1 st fun o r => (am_gf (am_f M o) 4 10).bind fun w => am_nx 18 l (w :: r) M := rfl
theorem xi_93_18 : am_do xs 93 18 l st M = am_inv 1 4 (.retAddr 7) st M := rfl
theorem xt_93_18 : am_to 93 18 = 92 := rfl
theorem xi_93_21 : am_do xs 93 21 l st M = am_rtj st := rfl
theorem xi_94_0 : am_do xs 94 0 l st M = am_lda (am_lg l 1) 1 l st M := rfl
theorem xi_94_1 : am_do xs 94 1 l st M = am_a1 st fun o r => (am_gf (am_f M o) 3 6).bind fun w => am_nx 4 l (w :: r) M := rfl
theorem xi_94_4 : am_do xs 94 4 l st M = am_nul st 7 18 l M := rfl
theorem xi_94_7 : am_do xs 94 7 l st M = if am_wt st ≤ 8 then some (.inr (.inr (.inl 104))) else none := rfl
theorem xi_94_10 : am_do xs 94 10 l st M = am_dup st 11 l M := rfl
theorem xi_94_18 : am_do xs 94 18 l st M = am_lda (am_lg l 0) 19 l st M := rfl
theorem xi_94_19 : am_do xs 94 19 l st M = am_lda (am_lg l 1) 20 l st M := rfl
theorem xi_94_20 : am_do xs 94 20 l st M = am_a1 st fun o r => (am_gf (am_f M o) 3 6).bind fun w => am_nx 23 l (w :: r) M := rfl
theorem xi_94_23 : am_do xs 94 23 l st M = am_inv 1 2 (.retAddr 7) st M := rfl
theorem xt_94_23 : am_to 94 23 = 93 := rfl
theorem xi_94_26 : am_do xs 94 26 l st M = am_lda (am_lg l 1) 27 l st M := rfl
theorem xi_94_27 : am_do xs 94 27 l st M = am_a1 st fun o r => (am_gf (am_f M o) 3 4).bind fun w => am_nx 30 l (w :: r) M := rfl
theorem xi_94_30 : am_do xs 94 30 l st M = am_j2 st fun x y r => am_nx 31 l (.long (x + y) :: r) M := rfl
theorem xi_94_31 : am_do xs 94 31 l st M = am_rtj st := rfl
theorem xi_95_0 : am_do xs 95 0 l st M = am_lda (am_lg l 0) 1 l st M := rfl
theorem xi_95_1 : am_do xs 95 1 l st M = am_lda (am_lg l 1) 2 l st M := rfl
theorem xi_95_2 : am_do xs 95 2 l st M = am_inv 1 2 (.retAddr 7) st M := rfl
theorem xt_95_2 : am_to 95 2 = 93 := rfl
theorem xi_95_5 : am_do xs 95 5 l st M = am_lda (am_lg l 0) 6 l st M := rfl
theorem xi_95_6 : am_do xs 95 6 l st M = am_lda (am_lg l 1) 7 l st M := rfl
theorem xi_95_7 : am_do xs 95 7 l st M = am_inv 1 2 (.retAddr 7) st M := rfl
theorem xt_95_7 : am_to 95 7 = 94 := rfl
theorem xi_95_10 : am_do xs 95 10 l st M = am_j2 st fun x y r => am_nx 11 l (.long (x - y) :: r) M := rfl
theorem xi_95_11 : am_do xs 95 11 l st M = am_rtj st := rfl
theorem xi_96_0 : am_do xs 96 0 l st M = am_lda (am_lg l 1) 1 l st M := rfl
theorem xi_96_1 : am_do xs 96 1 l st M = am_a1 st fun o r => (am_gf (am_f M o) 4 9).bind fun w => am_nx 4 l (w :: r) M := rfl
theorem xi_96_4 : am_do xs 96 4 l st M = am_nx 5 l (.int 2 :: st) M := rfl
theorem xi_96_5 : am_do xs 96 5 l st M = am_i2 st fun x y r => am_nx (if y ≤ x then 19 else 8) l r M := rfl
theorem xi_96_8 : am_do xs 96 8 l st M = if am_wt st ≤ 8 then some (.inr (.inr (.inl 104))) else none := rfl
theorem xi_96_11 : am_do xs 96 11 l st M = am_dup st 12 l M := rfl
theorem xi_96_19 : am_do xs 96 19 l st M = am_nx 20 l (.double FP.dconst0 :: st) M := rfl
theorem xi_96_20 : am_do xs 96 20 l st M = am_d1 st fun x r => am_nx 21 (am_s2 l 2 (.double x)) r M := rfl
theorem xi_96_21 : am_do xs 96 21 l st M = am_lda (am_lg l 1) 22 l st M := rfl
theorem xi_96_22 : am_do xs 96 22 l st M = am_a1 st fun o r => (am_gf (am_f M o) 4 7).bind fun w => am_nx 25 l (w :: r) M := rfl
theorem xi_96_25 : am_do xs 96 25 l st M = am_sta 4 27 l st M := rfl
theorem xi_96_27 : am_do xs 96 27 l st M = am_lda (am_lg l 4) 29 l st M := rfl
theorem xi_96_29 : am_do xs 96 29 l st M = am_nul st 60 32 l M := rfl
theorem xi_96_32 : am_do xs 96 32 l st M = am_lda (am_lg l 4) 34 l st M := rfl
theorem xi_96_34 : am_do xs 96 34 l st M = am_a1 st fun o r => (am_gf (am_f M o) 3 6).bind fun w => am_nx 37 l (w :: r) M := rfl
theorem xi_96_37 : am_do xs 96 37 l st M = am_nul st 50 40 l M := rfl
theorem xi_96_40 : am_do xs 96 40 l st M = am_ldd (am_lg l 2) 41 l st M := rfl
theorem xi_96_41 : am_do xs 96 41 l st M = am_lda (am_lg l 0) 42 l st M := rfl
theorem xi_96_42 : am_do xs 96 42 l st M = am_lda (am_lg l 4) 44 l st M := rfl
theorem xi_96_44 : am_do xs 96 44 l st M = am_inv 1 2 (.retAddr 7) st M := rfl
theorem xt_96_44 : am_to 96 44 = 95 := rfl
theorem xi_96_47 : am_do xs 96 47 l st M = am_j1 st fun x r => am_nx 48 l (.double (FP.l2d x) :: r) M := rfl
theorem xi_96_48 : am_do xs 96 48 l st M = am_d2 st fun x y r => am_nx 49 l (.double (FP.dadd x y) :: r) M := rfl
theorem xi_96_49 : am_do xs 96 49 l st M = am_d1 st fun x r => am_nx 50 (am_s2 l 2 (.double x)) r M := rfl
theorem xi_96_50 : am_do xs 96 50 l st M = am_lda (am_lg l 4) 52 l st M := rfl
theorem xi_96_52 : am_do xs 96 52 l st M = am_a1 st fun o r => (am_gf (am_f M o) 3 7).bind fun w => am_nx 55 l (w :: r) M := rfl
theorem xi_96_55 : am_do xs 96 55 l st M = am_sta 4 57 l st M := rfl
theorem xi_96_57 : am_do xs 96 57 l st M = am_nx 27 l st M := rfl
theorem xi_96_60 : am_do xs 96 60 l st M = am_ldd (am_lg l 2) 61 l st M := rfl
theorem xi_96_61 : am_do xs 96 61 l st M = am_lda (am_lg l 1) 62 l st M := rfl
theorem xi_96_62 : am_do xs 96 62 l st M = am_a1 st fun o r => (am_gf (am_f M o) 4 9).bind fun w => am_nx 65 l (w :: r) M := rfl
theorem xi_96_65 : am_do xs 96 65 l st M = am_nx 66 l (.int 1 :: st) M := rfl
theorem xi_96_66 : am_do xs 96 66 l st M = am_i2 st fun x y r => am_nx 67 l (.int (x - y) :: r) M := rfl
theorem xi_96_67 : am_do xs 96 67 l st M = am_i1 st fun x r => am_nx 68 l (.double (FP.i2d x) :: r) M := rfl
theorem xi_96_68 : am_do xs 96 68 l st M = am_d2 st fun x y r => am_nx 69 l (.double (FP.ddiv x y) :: r) M := rfl
theorem xi_96_69 : am_do xs 96 69 l st M = am_rtd st := rfl
theorem xi_97_0 : am_do xs 97 0 l st M = am_nx 1 l (.long 0 :: st) M := rfl
theorem xi_97_1 : am_do xs 97 1 l st M = am_j1 st fun x r => am_nx 2 (am_s2 l 2 (.long x)) r M := rfl
theorem xi_97_2 : am_do xs 97 2 l st M = am_lda (am_lg l 1) 3 l st M := rfl
theorem xi_97_3 : am_do xs 97 3 l st M = am_a1 st fun o r => (am_gf (am_f M o) 3 0).bind fun w => am_nx 6 l (w :: r) M := rfl
theorem xi_97_6 : am_do xs 97 6 l st M = am_a1 st fun o r => (am_gf (am_f M o) 4 7).bind fun w => am_nx 9 l (w :: r) M := rfl
theorem xi_97_9 : am_do xs 97 9 l st M = am_sta 4 11 l st M := rfl
theorem xi_97_11 : am_do xs 97 11 l st M = am_lda (am_lg l 4) 13 l st M := rfl
theorem xi_97_13 : am_do xs 97 13 l st M = am_nul st 63 16 l M := rfl
theorem xi_97_16 : am_do xs 97 16 l st M = am_lda (am_lg l 4) 18 l st M := rfl
theorem xi_97_18 : am_do xs 97 18 l st M = am_a1 st fun o r => (am_gf (am_f M o) 3 2).bind fun w => am_nx 21 l (w :: r) M := rfl
theorem xi_97_21 : am_do xs 97 21 l st M = am_lda (am_lg l 1) 22 l st M := rfl
theorem xi_97_22 : am_do xs 97 22 l st M = am_a1 st fun o r => (am_gf (am_f M o) 3 2).bind fun w => am_nx 25 l (w :: r) M := rfl
theorem xi_97_25 : am_do xs 97 25 l st M = am_i2 st fun x y r => am_nx (if y < x then 63 else 28) l r M := rfl
theorem xi_97_28 : am_do xs 97 28 l st M = am_lda (am_lg l 4) 30 l st M := rfl
theorem xi_97_30 : am_do xs 97 30 l st M = am_a1 st fun o r => (am_gf (am_f M o) 3 6).bind fun w => am_nx 33 l (w :: r) M := rfl
theorem xi_97_33 : am_do xs 97 33 l st M = am_nul st 36 45 l M := rfl
theorem xi_97_36 : am_do xs 97 36 l st M = am_lda (am_lg l 0) 37 l st M := rfl
theorem xi_97_37 : am_do xs 97 37 l st M = am_lda (am_lg l 4) 39 l st M := rfl
theorem xi_97_39 : am_do xs 97 39 l st M = am_inv 1 2 (.retAddr 7) st M := rfl
theorem xt_97_39 : am_to 97 39 = 93 := rfl
theorem xi_97_42 : am_do xs 97 42 l st M = am_nx 52 l st M := rfl
theorem xi_97_45 : am_do xs 97 45 l st M = am_lda (am_lg l 0) 46 l st M := rfl
theorem xi_97_46 : am_do xs 97 46 l st M = am_lda (am_lg l 4) 48 l st M := rfl
theorem xi_97_48 : am_do xs 97 48 l st M = am_ldj (am_lg l 2) 49 l st M := rfl
theorem xi_97_49 : am_do xs 97 49 l st M = am_inv 1 3 (.retAddr 7) st M := rfl
theorem xt_97_49 : am_to 97 49 = 98 := rfl
theorem xi_97_52 : am_do xs 97 52 l st M = am_j1 st fun x r => am_nx 53 (am_s2 l 2 (.long x)) r M := rfl
theorem xi_97_53 : am_do xs 97 53 l st M = am_lda (am_lg l 4) 55 l st M := rfl
theorem xi_97_55 : am_do xs 97 55 l st M = am_a1 st fun o r => (am_gf (am_f M o) 3 7).bind fun w => am_nx 58 l (w :: r) M := rfl
theorem xi_97_58 : am_do xs 97 58 l st M = am_sta 4 60 l st M := rfl
theorem xi_97_60 : am_do xs 97 60 l st M = am_nx 11 l st M := rfl
theorem xi_97_63 : am_do xs 97 63 l st M = am_ldj (am_lg l 2) 64 l st M := rfl
theorem xi_97_64 : am_do xs 97 64 l st M = am_rtj st := rfl
theorem xi_98_0 : am_do xs 98 0 l st M = am_lda (am_lg l 1) 1 l st M := rfl
theorem xi_98_1 : am_do xs 98 1 l st M = am_a1 st fun o r => (am_gf (am_f M o) 3 2).bind fun w => am_nx 4 l (w :: r) M := rfl
theorem xi_98_4 : am_do xs 98 4 l st M = am_nx 5 l (.int 1 :: st) M := rfl
theorem xi_98_5 : am_do xs 98 5 l st M = am_i2 st fun x y r => am_nx 6 l (.int (x + y) :: r) M := rfl
theorem xi_98_6 : am_do xs 98 6 l st M = am_lda (am_lg l 0) 7 l st M := rfl
theorem xi_98_7 : am_do xs 98 7 l st M = am_a1 st fun o r => (am_gf (am_f M o) 7 17).bind fun w => am_nx 10 l (w :: r) M := rfl
theorem xi_98_10 : am_do xs 98 10 l st M = am_inv 0 2 (.retAddr 100) st M := rfl
theorem xt_98_10 : am_to 98 10 = 4 := rfl
theorem xi_98_13 : am_do xs 98 13 l st M = am_i1 st fun x r => am_nx 14 l (.long x.toInt64 :: r) M := rfl
theorem xi_98_14 : am_do xs 98 14 l st M = am_j1 st fun x r => am_nx 16 (am_s2 l 4 (.long x)) r M := rfl
theorem xi_98_16 : am_do xs 98 16 l st M = am_ldj (am_lg l 2) 17 l st M := rfl
theorem xi_98_17 : am_do xs 98 17 l st M = am_lda (am_lg l 1) 18 l st M := rfl
theorem xi_98_18 : am_do xs 98 18 l st M = am_a1 st fun o r => (am_gf (am_f M o) 3 4).bind fun w => am_nx 21 l (w :: r) M := rfl
theorem xi_98_21 : am_do xs 98 21 l st M = am_j2 st fun x y r => am_nx 22 l (.long (x + y) :: r) M := rfl
theorem xi_98_22 : am_do xs 98 22 l st M = am_j1 st fun x r => am_nx 24 (am_s2 l 6 (.long x)) r M := rfl
theorem xi_98_24 : am_do xs 98 24 l st M = am_lda (am_lg l 0) 25 l st M := rfl
theorem xi_98_25 : am_do xs 98 25 l st M = am_lda (am_lg l 1) 26 l st M := rfl
theorem xi_98_26 : am_do xs 98 26 l st M = am_inv 1 2 (.retAddr 7) st M := rfl
theorem xt_98_26 : am_to 98 26 = 93 := rfl
theorem xi_98_29 : am_do xs 98 29 l st M = am_ldj (am_lg l 4) 31 l st M := rfl
theorem xi_98_31 : am_do xs 98 31 l st M = am_nx 32 l (.long 1 :: st) M := rfl
theorem xi_98_32 : am_do xs 98 32 l st M = am_j2 st fun x y r => am_nx 33 l (.long (x - y) :: r) M := rfl
theorem xi_98_33 : am_do xs 98 33 l st M = am_ldj (am_lg l 6) 35 l st M := rfl
theorem xi_98_35 : am_do xs 98 35 l st M = am_j2 st fun x y r => am_nx 36 l (.long (x * y) :: r) M := rfl
theorem xi_98_36 : am_do xs 98 36 l st M = am_j2 st fun x y r => am_nx 37 l (.long (x + y) :: r) M := rfl
theorem xi_98_37 : am_do xs 98 37 l st M = am_ldj (am_lg l 4) 39 l st M := rfl
theorem xi_98_39 : am_do xs 98 39 l st M = am_inv 0 2 (.retAddr 7) st M := rfl
theorem xt_98_39 : am_to 98 39 = 88 := rfl
theorem xi_98_42 : am_do xs 98 42 l st M = am_rtj st := rfl
theorem xi_99_0 : am_do xs 99 0 l st M = am_lda (am_lg l 1) 1 l st M := rfl
theorem xi_99_1 : am_do xs 99 1 l st M = am_inv 1 1 (.retAddr 4) st M := rfl
theorem xt_99_1 : am_to 99 1 = 20 := rfl
theorem xi_99_4 : am_do xs 99 4 l st M = am_i1 st fun x r => am_nx (if ¬ x = 0 then 18 else 7) l r M := rfl
theorem xi_99_7 : am_do xs 99 7 l st M = if am_wt st ≤ 8 then some (.inr (.inr (.inl 103))) else none := rfl
theorem xi_99_10 : am_do xs 99 10 l st M = am_dup st 11 l M := rfl
theorem xi_99_18 : am_do xs 99 18 l st M = am_nx 21 l (.ref M.1 :: st) (am_new M (am_nf 0).length (.inr (0, am_nf 0))) := rfl
theorem xi_99_21 : am_do xs 99 21 l st M = am_dup st 22 l M := rfl
theorem xi_99_22 : am_do xs 99 22 l st M = am_inv 12 1 (.retAddr 0) st M := rfl
theorem xt_99_22 : am_to 99 22 = 6 := rfl
theorem xi_99_25 : am_do xs 99 25 l st M = am_sta 2 26 l st M := rfl
theorem xi_99_26 : am_do xs 99 26 l st M = am_lda (am_lg l 1) 27 l st M := rfl
theorem xi_99_27 : am_do xs 99 27 l st M = am_a1 st fun o r => (am_gf (am_f M o) 4 7).bind fun w => am_nx 30 l (w :: r) M := rfl
theorem xi_99_30 : am_do xs 99 30 l st M = am_sta 3 31 l st M := rfl
theorem xi_99_31 : am_do xs 99 31 l st M = am_lda (am_lg l 3) 32 l st M := rfl
theorem xi_99_32 : am_do xs 99 32 l st M = am_nul st 56 35 l M := rfl
theorem xi_99_35 : am_do xs 99 35 l st M = am_lda (am_lg l 2) 36 l st M := rfl
theorem xi_99_36 : am_do xs 99 36 l st M = am_lda (am_lg l 3) 37 l st M := rfl
theorem xi_99_37 : am_do xs 99 37 l st M = am_inv 0 1 (.retAddr 7) st M := rfl
theorem xt_99_37 : am_to 99 37 = 100 := rfl
theorem xi_99_40 : am_do xs 99 40 l st M = am_lda (am_lg l 0) 41 l st M := rfl
theorem xi_99_41 : am_do xs 99 41 l st M = am_lda (am_lg l 3) 42 l st M := rfl
theorem xi_99_42 : am_do xs 99 42 l st M = am_inv 1 2 (.retAddr 7) st M := rfl
theorem xt_99_42 : am_to 99 42 = 101 := rfl
theorem xi_99_45 : am_do xs 99 45 l st M = am_inv 1 3 (.retAddr 0) st M := rfl
theorem xt_99_45 : am_to 99 45 = 7 := rfl
theorem xi_99_48 : am_do xs 99 48 l st M = am_lda (am_lg l 3) 49 l st M := rfl
theorem xi_99_49 : am_do xs 99 49 l st M = am_a1 st fun o r => (am_gf (am_f M o) 3 7).bind fun w => am_nx 52 l (w :: r) M := rfl
theorem xi_99_52 : am_do xs 99 52 l st M = am_sta 3 53 l st M := rfl
theorem xi_99_53 : am_do xs 99 53 l st M = am_nx 31 l st M := rfl
theorem xi_99_56 : am_do xs 99 56 l st M = am_lda (am_lg l 2) 57 l st M := rfl
theorem xi_99_57 : am_do xs 99 57 l st M = am_rta st := rfl
theorem xi_100_0 : am_do xs 100 0 l st M = am_lda (am_lg l 0) 1 l st M := rfl
theorem xi_100_1 : am_do xs 100 1 l st M = am_a1 st fun o r => (am_gf (am_f M o) 3 0).bind fun w => am_nx 4 l (w :: r) M := rfl
theorem xi_100_4 : am_do xs 100 4 l st M = am_a1 st fun o r => (am_gf (am_f M o) 4 7).bind fun w => am_nx 7 l (w :: r) M := rfl
theorem xi_100_7 : am_do xs 100 7 l st M = am_sta 1 8 l st M := rfl
theorem xi_100_8 : am_do xs 100 8 l st M = am_lda (am_lg l 1) 9 l st M := rfl
theorem xi_100_9 : am_do xs 100 9 l st M = am_nul st 12 16 l M := rfl
theorem xi_100_12 : am_do xs 100 12 l st M = am_nx 13 l (.double FP.dconst0 :: st) M := rfl
theorem xi_100_13 : am_do xs 100 13 l st M = am_nx 26 l st M := rfl
theorem xi_100_16 : am_do xs 100 16 l st M = am_lda (am_lg l 0) 17 l st M := rfl
theorem xi_100_17 : am_do xs 100 17 l st M = am_a1 st fun o r => (am_gf (am_f M o) 3 1).bind fun w => am_nx 20 l (w :: r) M := rfl
theorem xi_100_20 : am_do xs 100 20 l st M = am_lda (am_lg l 1) 21 l st M := rfl
theorem xi_100_21 : am_do xs 100 21 l st M = am_a1 st fun o r => (am_gf (am_f M o) 3 1).bind fun w => am_nx 24 l (w :: r) M := rfl
theorem xi_100_24 : am_do xs 100 24 l st M = am_i2 st fun x y r => am_nx 25 l (.int (x - y) :: r) M := rfl
theorem xi_100_25 : am_do xs 100 25 l st M = am_i1 st fun x r => am_nx 26 l (.double (FP.i2d x) :: r) M := rfl
theorem xi_100_26 : am_do xs 100 26 l st M = am_rtd st := rfl
theorem xi_101_0 : am_do xs 101 0 l st M = am_lda (am_lg l 1) 1 l st M := rfl
theorem xi_101_1 : am_do xs 101 1 l st M = am_a1 st fun o r => (am_gf (am_f M o) 3 0).bind fun w => am_nx 4 l (w :: r) M := rfl
theorem xi_101_4 : am_do xs 101 4 l st M = am_a1 st fun o r => (am_gf (am_f M o) 4 7).bind fun w => am_nx 7 l (w :: r) M := rfl
theorem xi_101_7 : am_do xs 101 7 l st M = am_sta 2 8 l st M := rfl
theorem xi_101_8 : am_do xs 101 8 l st M = am_lda (am_lg l 2) 9 l st M := rfl
theorem xi_101_9 : am_do xs 101 9 l st M = am_nul st 12 16 l M := rfl
theorem xi_101_12 : am_do xs 101 12 l st M = am_nx 13 l (.double FP.dconst0 :: st) M := rfl
theorem xi_101_13 : am_do xs 101 13 l st M = am_nx 28 l st M := rfl
theorem xi_101_16 : am_do xs 101 16 l st M = am_lda (am_lg l 0) 17 l st M := rfl
theorem xi_101_17 : am_do xs 101 17 l st M = am_lda (am_lg l 1) 18 l st M := rfl
theorem xi_101_18 : am_do xs 101 18 l st M = am_inv 1 2 (.retAddr 7) st M := rfl
theorem xt_101_18 : am_to 101 18 = 93 := rfl
theorem xi_101_21 : am_do xs 101 21 l st M = am_lda (am_lg l 0) 22 l st M := rfl
theorem xi_101_22 : am_do xs 101 22 l st M = am_lda (am_lg l 2) 23 l st M := rfl
theorem xi_101_23 : am_do xs 101 23 l st M = am_inv 1 2 (.retAddr 7) st M := rfl
theorem xt_101_23 : am_to 101 23 = 93 := rfl
theorem xi_101_26 : am_do xs 101 26 l st M = am_j2 st fun x y r => am_nx 27 l (.long (x - y) :: r) M := rfl
theorem xi_101_27 : am_do xs 101 27 l st M = am_j1 st fun x r => am_nx 28 l (.double (FP.l2d x) :: r) M := rfl
theorem xi_101_28 : am_do xs 101 28 l st M = am_rtd st := rfl
theorem xi_102_0 : am_do xs 102 0 l st M = am_lda (am_lg l 0) 1 l st M := rfl
theorem xi_102_1 : am_do xs 102 1 l st M = am_a1 st fun o r => (am_gf (am_f M o) 4 7).bind fun w => am_nx 4 l (w :: r) M := rfl
theorem xi_102_4 : am_do xs 102 4 l st M = am_sta 1 5 l st M := rfl
theorem xi_102_5 : am_do xs 102 5 l st M = am_lda (am_lg l 0) 6 l st M := rfl
theorem xi_102_6 : am_do xs 102 6 l st M = am_a1 st fun o r => (am_gf (am_f M o) 4 8).bind fun w => am_nx 9 l (w :: r) M := rfl
theorem xi_102_9 : am_do xs 102 9 l st M = am_sta 2 10 l st M := rfl
theorem xi_102_10 : am_do xs 102 10 l st M = am_lda (am_lg l 1) 11 l st M := rfl
theorem xi_102_11 : am_do xs 102 11 l st M = am_nul st 18 14 l M := rfl
theorem xi_102_14 : am_do xs 102 14 l st M = am_lda (am_lg l 2) 15 l st M := rfl
theorem xi_102_15 : am_do xs 102 15 l st M = am_nul st 18 20 l M := rfl
theorem xi_102_18 : am_do xs 102 18 l st M = am_nx 19 l (.long 0 :: st) M := rfl
theorem xi_102_19 : am_do xs 102 19 l st M = am_rtj st := rfl
theorem xi_102_20 : am_do xs 102 20 l st M = am_lda (am_lg l 2) 21 l st M := rfl
theorem xi_102_21 : am_do xs 102 21 l st M = am_a1 st fun o r => (am_gf (am_f M o) 3 3).bind fun w => am_nx 24 l (w :: r) M := rfl
theorem xi_102_24 : am_do xs 102 24 l st M = am_lda (am_lg l 1) 25 l st M := rfl
theorem xi_102_25 : am_do xs 102 25 l st M = am_a1 st fun o r => (am_gf (am_f M o) 3 3).bind fun w => am_nx 28 l (w :: r) M := rfl
theorem xi_102_28 : am_do xs 102 28 l st M = am_j2 st fun x y r => am_nx 29 l (.long (x - y) :: r) M := rfl
theorem xi_102_29 : am_do xs 102 29 l st M = am_lda (am_lg l 0) 30 l st M := rfl
theorem xi_102_30 : am_do xs 102 30 l st M = am_a1 st fun o r => (am_gf (am_f M o) 4 4).bind fun w => am_nx 33 l (w :: r) M := rfl
theorem xi_102_33 : am_do xs 102 33 l st M = am_i1 st fun x r => am_nx 34 l (.long x.toInt64 :: r) M := rfl
theorem xi_102_34 : am_do xs 102 34 l st M = am_j2 st fun x y r => am_nx 35 l (.long (x * y) :: r) M := rfl
theorem xi_102_35 : am_do xs 102 35 l st M = am_j1 st fun x r => am_nx 36 (am_s2 l 3 (.long x)) r M := rfl
theorem xi_102_36 : am_do xs 102 36 l st M = am_ldj (am_lg l 3) 37 l st M := rfl
theorem xi_102_37 : am_do xs 102 37 l st M = am_lda (am_lg l 2) 38 l st M := rfl
theorem xi_102_38 : am_do xs 102 38 l st M = am_a1 st fun o r => (am_gf (am_f M o) 3 1).bind fun w => am_nx 41 l (w :: r) M := rfl
theorem xi_102_41 : am_do xs 102 41 l st M = am_lda (am_lg l 1) 42 l st M := rfl
theorem xi_102_42 : am_do xs 102 42 l st M = am_a1 st fun o r => (am_gf (am_f M o) 3 1).bind fun w => am_nx 45 l (w :: r) M := rfl
theorem xi_102_45 : am_do xs 102 45 l st M = am_i2 st fun x y r => am_nx 46 l (.int (x - y) :: r) M := rfl
theorem xi_102_46 : am_do xs 102 46 l st M = am_i1 st fun x r => am_nx 47 l (.long x.toInt64 :: r) M := rfl
theorem xi_102_47 : am_do xs 102 47 l st M = am_inv 0 2 (.retAddr 7) st M := rfl
theorem xt_102_47 : am_to 102 47 = 88 := rfl
theorem xi_102_50 : am_do xs 102 50 l st M = am_rtj st := rfl
end
