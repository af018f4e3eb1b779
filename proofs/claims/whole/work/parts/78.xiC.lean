section
variable {xs : Option (Nat × (Nat → Int32))} {l : am_L} {st : List Value} {M : am_M}
theorem xi_189_0 : am_do xs 189 0 l st M = am_lda (am_lg l 0) 1 l st M := rfl
theorem xi_189_1 : am_do xs 189 1 l st M = am_ldj (am_lg l 1) 2 l st M := rfl
theorem xi_189_2 : am_do xs 189 2 l st M = am_ldi (am_lg l 3) 3 l st M := rfl
theorem xi_189_3 : am_do xs 189 3 l st M = am_inv 1 3 (.retAddr 7) st M := rfl
theorem xt_189_3 : am_to 189 3 = 28 := rfl
theorem xi_189_6 : am_do xs 189 6 l st M = am_nx 17 l st M := rfl
theorem xi_189_9 : am_do xs 189 9 l st M = am_sta 4 11 l st M := rfl
theorem xi_189_11 : am_do xs 189 11 l st M = am_nx 12 l (.int 1 :: st) M := rfl
theorem xi_189_12 : am_do xs 189 12 l st M = am_rti st 0 := rfl
theorem xi_189_13 : am_do xs 189 13 l st M = am_sta 4 15 l st M := rfl
theorem xi_189_15 : am_do xs 189 15 l st M = am_nx 16 l (.int 2 :: st) M := rfl
theorem xi_189_16 : am_do xs 189 16 l st M = am_rti st 0 := rfl
theorem xi_189_17 : am_do xs 189 17 l st M = am_nx 18 l (.int 0 :: st) M := rfl
theorem xi_189_18 : am_do xs 189 18 l st M = am_rti st 0 := rfl
theorem xi_190_0 : am_do xs 190 0 l st M = am_lda (am_lg l 3) 1 l st M := rfl
theorem xi_190_1 : am_do xs 190 1 l st M = am_nx 2 l (.int 0 :: st) M := rfl
theorem xi_190_2 : am_do xs 190 2 l st M = am_lda (am_lg l 0) 3 l st M := rfl
theorem xi_190_3 : am_do xs 190 3 l st M = am_ldi (am_lg l 1) 4 l st M := rfl
theorem xi_190_4 : am_do xs 190 4 l st M = am_ldi (am_lg l 2) 5 l st M := rfl
theorem xi_190_5 : am_do xs 190 5 l st M = am_inv 1 3 (.retAddr 7) st M := rfl
theorem xt_190_5 : am_to 190 5 = 29 := rfl
theorem xi_190_8 : am_do xs 190 8 l st M = am_i1 st fun x r => am_nx 9 l (.long x.toInt64 :: r) M := rfl
theorem xi_190_9 : am_do xs 190 9 l st M = am_via st fun w i o r => (am_wj (am_f M o) i w).bind fun e => am_nx 10 l r (am_set M o e) := rfl
theorem xi_190_10 : am_do xs 190 10 l st M = am_nx 21 l st M := rfl
theorem xi_190_13 : am_do xs 190 13 l st M = am_sta 4 15 l st M := rfl
theorem xi_190_15 : am_do xs 190 15 l st M = am_nx 16 l (.int 1 :: st) M := rfl
theorem xi_190_16 : am_do xs 190 16 l st M = am_rti st 0 := rfl
theorem xi_190_17 : am_do xs 190 17 l st M = am_sta 4 19 l st M := rfl
theorem xi_190_19 : am_do xs 190 19 l st M = am_nx 20 l (.int 2 :: st) M := rfl
theorem xi_190_20 : am_do xs 190 20 l st M = am_rti st 0 := rfl
theorem xi_190_21 : am_do xs 190 21 l st M = am_nx 22 l (.int 0 :: st) M := rfl
theorem xi_190_22 : am_do xs 190 22 l st M = am_rti st 0 := rfl
theorem xi_191_0 : am_do xs 191 0 l st M = am_lda (am_lg l 2) 1 l st M := rfl
theorem xi_191_1 : am_do xs 191 1 l st M = am_nx 2 l (.int 0 :: st) M := rfl
theorem xi_191_2 : am_do xs 191 2 l st M = am_lda (am_lg l 0) 3 l st M := rfl
theorem xi_191_3 : am_do xs 191 3 l st M = am_ldi (am_lg l 1) 4 l st M := rfl
theorem xi_191_4 : am_do xs 191 4 l st M = am_inv 1 2 (.retAddr 7) st M := rfl
theorem xt_191_4 : am_to 191 4 = 31 := rfl
theorem xi_191_7 : am_do xs 191 7 l st M = am_i1 st fun x r => am_nx 8 l (.long x.toInt64 :: r) M := rfl
theorem xi_191_8 : am_do xs 191 8 l st M = am_via st fun w i o r => (am_wj (am_f M o) i w).bind fun e => am_nx 9 l r (am_set M o e) := rfl
theorem xi_191_9 : am_do xs 191 9 l st M = am_nx 18 l st M := rfl
theorem xi_191_12 : am_do xs 191 12 l st M = am_sta 3 13 l st M := rfl
theorem xi_191_13 : am_do xs 191 13 l st M = am_nx 14 l (.int 1 :: st) M := rfl
theorem xi_191_14 : am_do xs 191 14 l st M = am_rti st 0 := rfl
theorem xi_191_15 : am_do xs 191 15 l st M = am_sta 3 16 l st M := rfl
theorem xi_191_16 : am_do xs 191 16 l st M = am_nx 17 l (.int 2 :: st) M := rfl
theorem xi_191_17 : am_do xs 191 17 l st M = am_rti st 0 := rfl
theorem xi_191_18 : am_do xs 191 18 l st M = am_nx 19 l (.int 0 :: st) M := rfl
theorem xi_191_19 : am_do xs 191 19 l st M = am_rti st 0 := rfl
theorem xi_192_0 : am_do xs 192 0 l st M = am_lda (am_lg l 2) 1 l st M := rfl
theorem xi_192_1 : am_do xs 192 1 l st M = am_nx 2 l (.int 0 :: st) M := rfl
theorem xi_192_2 : am_do xs 192 2 l st M = am_lda (am_lg l 0) 3 l st M := rfl
theorem xi_192_3 : am_do xs 192 3 l st M = am_ldi (am_lg l 1) 4 l st M := rfl
theorem xi_192_4 : am_do xs 192 4 l st M = am_inv 1 2 (.retAddr 7) st M := rfl
theorem xt_192_4 : am_to 192 4 = 35 := rfl
theorem xi_192_7 : am_do xs 192 7 l st M = am_via st fun w i o r => (am_wj (am_f M o) i w).bind fun e => am_nx 8 l r (am_set M o e) := rfl
theorem xi_192_8 : am_do xs 192 8 l st M = am_nx 14 l st M := rfl
theorem xi_192_11 : am_do xs 192 11 l st M = am_sta 3 12 l st M := rfl
theorem xi_192_12 : am_do xs 192 12 l st M = am_nx 13 l (.int 1 :: st) M := rfl
theorem xi_192_13 : am_do xs 192 13 l st M = am_rti st 0 := rfl
theorem xi_192_14 : am_do xs 192 14 l st M = am_nx 15 l (.int 0 :: st) M := rfl
theorem xi_192_15 : am_do xs 192 15 l st M = am_rti st 0 := rfl
theorem xi_193_0 : am_do xs 193 0 l st M = am_lda (am_lg l 2) 1 l st M := rfl
theorem xi_193_1 : am_do xs 193 1 l st M = am_nx 2 l (.int 0 :: st) M := rfl
theorem xi_193_2 : am_do xs 193 2 l st M = am_lda (am_lg l 0) 3 l st M := rfl
theorem xi_193_3 : am_do xs 193 3 l st M = am_ldi (am_lg l 1) 4 l st M := rfl
theorem xi_193_4 : am_do xs 193 4 l st M = am_inv 1 2 (.retAddr 7) st M := rfl
theorem xt_193_4 : am_to 193 4 = 36 := rfl
theorem xi_193_7 : am_do xs 193 7 l st M = am_i1 st fun x r => am_nx 8 l (.long x.toInt64 :: r) M := rfl
theorem xi_193_8 : am_do xs 193 8 l st M = am_via st fun w i o r => (am_wj (am_f M o) i w).bind fun e => am_nx 9 l r (am_set M o e) := rfl
theorem xi_193_9 : am_do xs 193 9 l st M = am_nx 15 l st M := rfl
theorem xi_193_12 : am_do xs 193 12 l st M = am_sta 3 13 l st M := rfl
theorem xi_193_13 : am_do xs 193 13 l st M = am_nx 14 l (.int 1 :: st) M := rfl
theorem xi_193_14 : am_do xs 193 14 l st M = am_rti st 0 := rfl
theorem xi_193_15 : am_do xs 193 15 l st M = am_nx 16 l (.int 0 :: st) M := rfl
theorem xi_193_16 : am_do xs 193 16 l st M = am_rti st 0 := rfl
theorem xi_194_0 : am_do xs 194 0 l st M = am_lda (am_lg l 4) 2 l st M := rfl
theorem xi_194_2 : am_do xs 194 2 l st M = am_nx 3 l (.int 0 :: st) M := rfl
theorem xi_194_3 : am_do xs 194 3 l st M = am_lda (am_lg l 0) 4 l st M := rfl
theorem xi_194_4 : am_do xs 194 4 l st M = am_ldi (am_lg l 1) 5 l st M := rfl
theorem xi_194_5 : am_do xs 194 5 l st M = am_ldj (am_lg l 2) 6 l st M := rfl
theorem xi_194_6 : am_do xs 194 6 l st M = am_inv 1 3 (.retAddr 7) st M := rfl
theorem xt_194_6 : am_to 194 6 = 37 := rfl
theorem xi_194_9 : am_do xs 194 9 l st M = am_via st fun w i o r => (am_wj (am_f M o) i w).bind fun e => am_nx 10 l r (am_set M o e) := rfl
theorem xi_194_10 : am_do xs 194 10 l st M = am_nx 17 l st M := rfl
theorem xi_194_13 : am_do xs 194 13 l st M = am_sta 5 15 l st M := rfl
theorem xi_194_15 : am_do xs 194 15 l st M = am_nx 16 l (.int 1 :: st) M := rfl
theorem xi_194_16 : am_do xs 194 16 l st M = am_rti st 0 := rfl
theorem xi_194_17 : am_do xs 194 17 l st M = am_nx 18 l (.int 0 :: st) M := rfl
theorem xi_194_18 : am_do xs 194 18 l st M = am_rti st 0 := rfl
theorem xi_195_0 : am_do xs 195 0 l st M = am_lda (am_lg l 2) 1 l st M := rfl
theorem xi_195_1 : am_do xs 195 1 l st M = am_nx 2 l (.int 0 :: st) M := rfl
theorem xi_195_2 : am_do xs 195 2 l st M = am_lda (am_lg l 0) 3 l st M := rfl
theorem xi_195_3 : am_do xs 195 3 l st M = am_ldi (am_lg l 1) 4 l st M := rfl
theorem xi_195_4 : am_do xs 195 4 l st M = am_inv 1 2 (.retAddr 7) st M := rfl
theorem xt_195_4 : am_to 195 4 = 38 := rfl
theorem xi_195_7 : am_do xs 195 7 l st M = am_i1 st fun x r => am_nx 8 l (.long x.toInt64 :: r) M := rfl
theorem xi_195_8 : am_do xs 195 8 l st M = am_via st fun w i o r => (am_wj (am_f M o) i w).bind fun e => am_nx 9 l r (am_set M o e) := rfl
theorem xi_195_9 : am_do xs 195 9 l st M = am_nx 18 l st M := rfl
theorem xi_195_12 : am_do xs 195 12 l st M = am_sta 3 13 l st M := rfl
theorem xi_195_13 : am_do xs 195 13 l st M = am_nx 14 l (.int 1 :: st) M := rfl
theorem xi_195_14 : am_do xs 195 14 l st M = am_rti st 0 := rfl
theorem xi_195_15 : am_do xs 195 15 l st M = am_sta 3 16 l st M := rfl
theorem xi_195_16 : am_do xs 195 16 l st M = am_nx 17 l (.int 2 :: st) M := rfl
theorem xi_195_17 : am_do xs 195 17 l st M = am_rti st 0 := rfl
theorem xi_195_18 : am_do xs 195 18 l st M = am_nx 19 l (.int 0 :: st) M := rfl
theorem xi_195_19 : am_do xs 195 19 l st M = am_rti st 0 := rfl
theorem xi_196_0 : am_do xs 196 0 l st M = am_lda (am_lg l 3) 1 l st M := rfl
theorem xi_196_1 : am_do xs 196 1 l st M = am_nx 2 l (.int 0 :: st) M := rfl
theorem xi_196_2 : am_do xs 196 2 l st M = am_lda (am_lg l 0) 3 l st M := rfl
theorem xi_196_3 : am_do xs 196 3 l st M = am_ldj (am_lg l 1) 4 l st M := rfl
theorem xi_196_4 : am_do xs 196 4 l st M = am_inv 1 2 (.retAddr 7) st M := rfl
theorem xt_196_4 : am_to 196 4 = 39 := rfl
theorem xi_196_7 : am_do xs 196 7 l st M = am_i1 st fun x r => am_nx 8 l (.long x.toInt64 :: r) M := rfl
theorem xi_196_8 : am_do xs 196 8 l st M = am_via st fun w i o r => (am_wj (am_f M o) i w).bind fun e => am_nx 9 l r (am_set M o e) := rfl
theorem xi_196_9 : am_do xs 196 9 l st M = am_nx 20 l st M := rfl
theorem xi_196_12 : am_do xs 196 12 l st M = am_sta 4 14 l st M := rfl
theorem xi_196_14 : am_do xs 196 14 l st M = am_nx 15 l (.int 1 :: st) M := rfl
theorem xi_196_15 : am_do xs 196 15 l st M = am_rti st 0 := rfl
theorem xi_196_16 : am_do xs 196 16 l st M = am_sta 4 18 l st M := rfl
theorem xi_196_18 : am_do xs 196 18 l st M = am_nx 19 l (.int 2 :: st) M := rfl
theorem xi_196_19 : am_do xs 196 19 l st M = am_rti st 0 := rfl
theorem xi_196_20 : am_do xs 196 20 l st M = am_nx 21 l (.int 0 :: st) M := rfl
theorem xi_196_21 : am_do xs 196 21 l st M = am_rti st 0 := rfl
theorem xi_197_0 : am_do xs 197 0 l st M = am_lda (am_lg l 1) 1 l st M := rfl
theorem xi_197_1 : am_do xs 197 1 l st M = am_nx 2 l (.int 0 :: st) M := rfl
theorem xi_197_2 : am_do xs 197 2 l st M = am_lda (am_lg l 0) 3 l st M := rfl
theorem xi_197_3 : am_do xs 197 3 l st M = am_inv 1 1 (.retAddr 7) st M := rfl
theorem xt_197_3 : am_to 197 3 = 40 := rfl
theorem xi_197_6 : am_do xs 197 6 l st M = am_i1 st fun x r => am_nx 7 l (.long x.toInt64 :: r) M := rfl
theorem xi_197_7 : am_do xs 197 7 l st M = am_via st fun w i o r => (am_wj (am_f M o) i w).bind fun e => am_nx 8 l r (am_set M o e) := rfl
theorem xi_197_8 : am_do xs 197 8 l st M = am_nx 14 l st M := rfl
theorem xi_197_11 : am_do xs 197 11 l st M = am_sta 2 12 l st M := rfl
theorem xi_197_12 : am_do xs 197 12 l st M = am_nx 13 l (.int 1 :: st) M := rfl
theorem xi_197_13 : am_do xs 197 13 l st M = am_rti st 0 := rfl
theorem xi_197_14 : am_do xs 197 14 l st M = am_nx 15 l (.int 0 :: st) M := rfl
theorem xi_197_15 : am_do xs 197 15 l st M = am_rti st 0 := rfl
theorem xi_198_0 : am_do xs 198 0 l st M = am_lda (am_lg l 2) 1 l st M := rfl
theorem xi_198_1 : am_do xs 198 1 l st M = am_nx 2 l (.int 0 :: st) M := rfl
theorem xi_198_2 : am_do xs 198 2 l st M = am_lda (am_lg l 0) 3 l st M := rfl
theorem xi_198_3 : am_do xs 198 3 l st M = am_ldi (am_lg l 1) 4 l st M := rfl
theorem xi_198_4 : am_do xs 198 4 l st M = am_inv 1 2 (.retAddr 7) st M := rfl
theorem xt_198_4 : am_to 198 4 = 42 := rfl
theorem xi_198_7 : am_do xs 198 7 l st M = am_via st fun w i o r => (am_wj (am_f M o) i w).bind fun e => am_nx 8 l r (am_set M o e) := rfl
theorem xi_198_8 : am_do xs 198 8 l st M = am_nx 14 l st M := rfl
theorem xi_198_11 : am_do xs 198 11 l st M = am_sta 3 12 l st M := rfl
theorem xi_198_12 : am_do xs 198 12 l st M = am_nx 13 l (.int 1 :: st) M := rfl
theorem xi_198_13 : am_do xs 198 13 l st M = am_rti st 0 := rfl
theorem xi_198_14 : am_do xs 198 14 l st M = am_nx 15 l (.int 0 :: st) M := rfl
theorem xi_198_15 : am_do xs 198 15 l st M = am_rti st 0 := rfl
theorem xi_199_0 : am_do xs 199 0 l st M = am_lda (am_lg l 2) 1 l st M := rfl
theorem xi_199_1 : am_do xs 199 1 l st M = am_nx 2 l (.int 0 :: st) M := rfl
theorem xi_199_2 : am_do xs 199 2 l st M = am_lda (am_lg l 0) 3 l st M := rfl
theorem xi_199_3 : am_do xs 199 3 l st M = am_ldi (am_lg l 1) 4 l st M := rfl
theorem xi_199_4 : am_do xs 199 4 l st M = am_inv 1 2 (.retAddr 7) st M := rfl
theorem xt_199_4 : am_to 199 4 = 43 := rfl
theorem xi_199_7 : am_do xs 199 7 l st M = am_i1 st fun x r => am_nx 8 l (.long x.toInt64 :: r) M := rfl
theorem xi_199_8 : am_do xs 199 8 l st M = am_via st fun w i o r => (am_wj (am_f M o) i w).bind fun e => am_nx 9 l r (am_set M o e) := rfl
theorem xi_199_9 : am_do xs 199 9 l st M = am_nx 15 l st M := rfl
theorem xi_199_12 : am_do xs 199 12 l st M = am_sta 3 13 l st M := rfl
theorem xi_199_13 : am_do xs 199 13 l st M = am_nx 14 l (.int 1 :: st) M := rfl
theorem xi_199_14 : am_do xs 199 14 l st M = am_rti st 0 := rfl
theorem xi_199_15 : am_do xs 199 15 l st M = am_nx 16 l (.int 0 :: st) M := rfl
theorem xi_199_16 : am_do xs 199 16 l st M = am_rti st 0 := rfl
theorem xi_200_0 : am_do xs 200 0 l st M = am_lda (am_lg l 2) 1 l st M := rfl
theorem xi_200_1 : am_do xs 200 1 l st M = am_nx 2 l (.int 0 :: st) M := rfl
theorem xi_200_2 : am_do xs 200 2 l st M = am_lda (am_lg l 0) 3 l st M := rfl
theorem xi_200_3 : am_do xs 200 3 l st M = am_ldi (am_lg l 1) 4 l st M := rfl
theorem xi_200_4 : am_do xs 200 4 l st M = am_inv 1 2 (.retAddr 7) st M := rfl
theorem xt_200_4 : am_to 200 4 = 45 := rfl
theorem xi_200_7 : am_do xs 200 7 l st M = am_i1 st fun x r => am_nx 8 l (.long x.toInt64 :: r) M := rfl
theorem xi_200_8 : am_do xs 200 8 l st M = am_via st fun w i o r => (am_wj (am_f M o) i w).bind fun e => am_nx 9 l r (am_set M o e) := rfl
theorem xi_200_9 : am_do xs 200 9 l st M = am_nx 18 l st M := rfl
theorem xi_200_12 : am_do xs 200 12 l st M = am_sta 3 13 l st M := rfl
theorem xi_200_13 : am_do xs 200 13 l st M = am_nx 14 l (.int 1 :: st) M := rfl
theorem xi_200_14 : am_do xs 200 14 l st M = am_rti st 0 := rfl
theorem xi_200_15 : am_do xs 200 15 l st M = am_sta 3 16 l st M := rfl
theorem xi_200_16 : am_do xs 200 16 l st M = am_nx 17 l (.int 2 :: st) M := rfl
theorem xi_200_17 : am_do xs 200 17 l st M = am_rti st 0 := rfl
theorem xi_200_18 : am_do xs 200 18 l st M = am_nx 19 l (.int 0 :: st) M := rfl
theorem xi_200_19 : am_do xs 200 19 l st M = am_rti st 0 := rfl
theorem xi_201_0 : am_do xs 201 0 l st M = am_lda (am_lg l 2) 1 l st M := rfl
theorem xi_201_1 : am_do xs 201 1 l st M = am_nx 2 l (.int 0 :: st) M := rfl
theorem xi_201_2 : am_do xs 201 2 l st M = am_lda (am_lg l 0) 3 l st M := rfl
theorem xi_201_3 : am_do xs 201 3 l st M = am_ldi (am_lg l 1) 4 l st M := rfl
theorem xi_201_4 : am_do xs 201 4 l st M = am_inv 1 2 (.retAddr 7) st M := rfl
theorem xt_201_4 : am_to 201 4 = 46 := rfl
theorem xi_201_7 : am_do xs 201 7 l st M = am_via st fun w i o r => (am_wj (am_f M o) i w).bind fun e => am_nx 8 l r (am_set M o e) := rfl
theorem xi_201_8 : am_do xs 201 8 l st M = am_nx 17 l st M := rfl
theorem xi_201_11 : am_do xs 201 11 l st M = am_sta 3 12 l st M := rfl
theorem xi_201_12 : am_do xs 201 12 l st M = am_nx 13 l (.int 1 :: st) M := rfl
theorem xi_201_13 : am_do xs 201 13 l st M = am_rti st 0 := rfl
theorem xi_201_14 : am_do xs 201 14 l st M = am_sta 3 15 l st M := rfl
theorem xi_201_15 : am_do xs 201 15 l st M = am_nx 16 l (.int 2 :: st) M := rfl
theorem xi_201_16 : am_do xs 201 16 l st M = am_rti st 0 := rfl
theorem xi_201_17 : am_do xs 201 17 l st M = am_nx 18 l (.int 0 :: st) M := rfl
theorem xi_201_18 : am_do xs 201 18 l st M = am_rti st 0 := rfl
theorem xi_202_0 : am_do xs 202 0 l st M = am_lda (am_lg l 2) 1 l st M := rfl
theorem xi_202_1 : am_do xs 202 1 l st M = am_nx 2 l (.int 0 :: st) M := rfl
theorem xi_202_2 : am_do xs 202 2 l st M = am_lda (am_lg l 0) 3 l st M := rfl
theorem xi_202_3 : am_do xs 202 3 l st M = am_ldi (am_lg l 1) 4 l st M := rfl
theorem xi_202_4 : am_do xs 202 4 l st M = am_inv 1 2 (.retAddr 7) st M := rfl
theorem xt_202_4 : am_to 202 4 = 47 := rfl
theorem xi_202_7 : am_do xs 202 7 l st M = am_via st fun w i o r => (am_wj (am_f M o) i w).bind fun e => am_nx 8 l r (am_set M o e) := rfl
theorem xi_202_8 : am_do xs 202 8 l st M = am_nx 17 l st M := rfl
theorem xi_202_11 : am_do xs 202 11 l st M = am_sta 3 12 l st M := rfl
theorem xi_202_12 : am_do xs 202 12 l st M = am_nx 13 l (.int 1 :: st) M := rfl
theorem xi_202_13 : am_do xs 202 13 l st M = am_rti st 0 := rfl
theorem xi_202_14 : am_do xs 202 14 l st M = am_sta 3 15 l st M := rfl
theorem xi_202_15 : am_do xs 202 15 l st M = am_nx 16 l (.int 2 :: st) M := rfl
theorem xi_202_16 : am_do xs 202 16 l st M = am_rti st 0 := rfl
theorem xi_202_17 : am_do xs 202 17 l st M = am_nx 18 l (.int 0 :: st) M := rfl
theorem xi_202_18 : am_do xs 202 18 l st M = am_rti st 0 := rfl
theorem xi_203_0 : am_do xs 203 0 l st M = am_lda (am_lg l 2) 1 l st M := rfl
theorem xi_203_1 : am_do xs 203 1 l st M = am_nx 2 l (.int 0 :: st) M := rfl
theorem xi_203_2 : am_do xs 203 2 l st M = am_lda (am_lg l 0) 3 l st M := rfl
theorem xi_203_3 : am_do xs 203 3 l st M = am_ldi (am_lg l 1) 4 l st M := rfl
theorem xi_203_4 : am_do xs 203 4 l st M = am_inv 1 2 (.retAddr 7) st M := rfl
theorem xt_203_4 : am_to 203 4 = 48 := rfl
theorem xi_203_7 : am_do xs 203 7 l st M = am_i1 st fun x r => am_nx 8 l (.long x.toInt64 :: r) M := rfl
theorem xi_203_8 : am_do xs 203 8 l st M = am_via st fun w i o r => (am_wj (am_f M o) i w).bind fun e => am_nx 9 l r (am_set M o e) := rfl
theorem xi_203_9 : am_do xs 203 9 l st M = am_nx 15 l st M := rfl
theorem xi_203_12 : am_do xs 203 12 l st M = am_sta 3 13 l st M := rfl
theorem xi_203_13 : am_do xs 203 13 l st M = am_nx 14 l (.int 1 :: st) M := rfl
theorem xi_203_14 : am_do xs 203 14 l st M = am_rti st 0 := rfl
theorem xi_203_15 : am_do xs 203 15 l st M = am_nx 16 l (.int 0 :: st) M := rfl
theorem xi_203_16 : am_do xs 203 16 l st M = am_rti st 0 := rfl
theorem xi_204_0 : am_do xs 204 0 l st M = am_lda (am_lg l 1) 1 l st M := rfl
theorem xi_204_1 : am_do xs 204 1 l st M = am_nx 2 l (.int 0 :: st) M := rfl
theorem xi_204_2 : am_do xs 204 2 l st M = am_lda (am_lg l 0) 3 l st M := rfl
theorem xi_204_3 : am_do xs 204 3 l st M = am_inv 1 1 (.retAddr 7) st M := rfl
theorem xt_204_3 : am_to 204 3 = 49 := rfl
theorem xi_204_6 : am_do xs 204 6 l st M = am_i1 st fun x r => am_nx 7 l (.long x.toInt64 :: r) M := rfl
theorem xi_204_7 : am_do xs 204 7 l st M = am_via st fun w i o r => (am_wj (am_f M o) i w).bind fun e => am_nx 8 l r (am_set M o e) := rfl
theorem xi_204_8 : am_do xs 204 8 l st M = am_nx 14 l st M := rfl
theorem xi_204_11 : am_do xs 204 11 l st M = am_sta 2 12 l st M := rfl
theorem xi_204_12 : am_do xs 204 12 l st M = am_nx 13 l (.int 1 :: st) M := rfl
theorem xi_204_13 : am_do xs 204 13 l st M = am_rti st 0 := rfl
theorem xi_204_14 : am_do xs 204 14 l st M = am_nx 15 l (.int 0 :: st) M := rfl
theorem xi_204_15 : am_do xs 204 15 l st M = am_rti st 0 := rfl
theorem xi_205_0 : am_do xs 205 0 l st M = am_lda (am_lg l 1) 1 l st M := rfl
theorem xi_205_1 : am_do xs 205 1 l st M = am_nx 2 l (.int 0 :: st) M := rfl
theorem xi_205_2 : am_do xs 205 2 l st M = am_lda (am_lg l 0) 3 l st M := rfl
theorem xi_205_3 : am_do xs 205 3 l st M = am_inv 1 1 (.retAddr 7) st M := rfl
theorem xt_205_3 : am_to 205 3 = 50 := rfl
theorem xi_205_6 : am_do xs 205 6 l st M = am_i1 st fun x r => am_nx 7 l (.long x.toInt64 :: r) M := rfl
theorem xi_205_7 : am_do xs 205 7 l st M = am_via st fun w i o r => (am_wj (am_f M o) i w).bind fun e => am_nx 8 l r (am_set M o e) := rfl
theorem xi_205_8 : am_do xs 205 8 l st M = am_nx 14 l st M := rfl
theorem xi_205_11 : am_do xs 205 11 l st M = am_sta 2 12 l st M := rfl
theorem xi_205_12 : am_do xs 205 12 l st M = am_nx 13 l (.int 1 :: st) M := rfl
theorem xi_205_13 : am_do xs 205 13 l st M = am_rti st 0 := rfl
theorem xi_205_14 : am_do xs 205 14 l st M = am_nx 15 l (.int 0 :: st) M := rfl
theorem xi_205_15 : am_do xs 205 15 l st M = am_rti st 0 := rfl
theorem xi_206_0 : am_do xs 206 0 l st M = am_lda (am_lg l 1) 1 l st M := rfl
theorem xi_206_1 : am_do xs 206 1 l st M = am_nx 2 l (.int 0 :: st) M := rfl
theorem xi_206_2 : am_do xs 206 2 l st M = am_lda (am_lg l 0) 3 l st M := rfl
theorem xi_206_3 : am_do xs 206 3 l st M = am_inv 1 1 (.retAddr 7) st M := rfl
theorem xt_206_3 : am_to 206 3 = 51 := rfl
theorem xi_206_6 : am_do xs 206 6 l st M = am_i1 st fun x r => am_nx 7 l (.long x.toInt64 :: r) M := rfl
theorem xi_206_7 : am_do xs 206 7 l st M = am_via st fun w i o r => (am_wj (am_f M o) i w).bind fun e => am_nx 8 l r (am_set M o e) := rfl
theorem xi_206_8 : am_do xs 206 8 l st M = am_nx 14 l st M := rfl
theorem xi_206_11 : am_do xs 206 11 l st M = am_sta 2 12 l st M := rfl
theorem xi_206_12 : am_do xs 206 12 l st M = am_nx 13 l (.int 1 :: st) M := rfl
theorem xi_206_13 : am_do xs 206 13 l st M = am_rti st 0 := rfl
theorem xi_206_14 : am_do xs 206 14 l st M = am_nx 15 l (.int 0 :: st) M := rfl
theorem xi_206_15 : am_do xs 206 15 l st M = am_rti st 0 := rfl
theorem xi_207_0 : am_do xs 207 0 l st M = am_lda (am_lg l 2) 1 l st M := rfl
theorem xi_207_1 : am_do xs 207 1 l st M = am_nx 2 l (.int 0 :: st) M := rfl
theorem xi_207_2 : am_do xs 207 2 l st M = am_lda (am_lg l 0) 3 l st M := rfl
theorem xi_207_3 : am_do xs 207 3 l st M = am_ldi (am_lg l 1) 4 l st M := rfl
theorem xi_207_4 : am_do xs 207 4 l st M = am_inv 1 2 (.retAddr 7) st M := rfl
theorem xt_207_4 : am_to 207 4 = 52 := rfl
theorem xi_207_7 : am_do xs 207 7 l st M = am_via st fun w i o r => (am_wj (am_f M o) i w).bind fun e => am_nx 8 l r (am_set M o e) := rfl
theorem xi_207_8 : am_do xs 207 8 l st M = am_nx 17 l st M := rfl
theorem xi_207_11 : am_do xs 207 11 l st M = am_sta 3 12 l st M := rfl
theorem xi_207_12 : am_do xs 207 12 l st M = am_nx 13 l (.int 1 :: st) M := rfl
theorem xi_207_13 : am_do xs 207 13 l st M = am_rti st 0 := rfl
theorem xi_207_14 : am_do xs 207 14 l st M = am_sta 3 15 l st M := rfl
theorem xi_207_15 : am_do xs 207 15 l st M = am_nx 16 l (.int 2 :: st) M := rfl
theorem xi_207_16 : am_do xs 207 16 l st M = am_rti st 0 := rfl
theorem xi_207_17 : am_do xs 207 17 l st M = am_nx 18 l (.int 0 :: st) M := rfl
theorem xi_207_18 : am_do xs 207 18 l st M = am_rti st 0 := rfl
theorem xi_208_0 : am_do xs 208 0 l st M = am_lda (am_lg l 2) 1 l st M := rfl
theorem xi_208_1 : am_do xs 208 1 l st M = am_nx 2 l (.int 0 :: st) M := rfl
theorem xi_208_2 : am_do xs 208 2 l st M = am_lda (am_lg l 0) 3 l st M := rfl
theorem xi_208_3 : am_do xs 208 3 l st M = am_ldi (am_lg l 1) 4 l st M := rfl
theorem xi_208_4 : am_do xs 208 4 l st M = am_inv 1 2 (.retAddr 7) st M := rfl
theorem xt_208_4 : am_to 208 4 = 54 := rfl
theorem xi_208_7 : am_do xs 208 7 l st M = am_i1 st fun x r => am_nx 8 l (.long x.toInt64 :: r) M := rfl
theorem xi_208_8 : am_do xs 208 8 l st M = am_via st fun w i o r => (am_wj (am_f M o) i w).bind fun e => am_nx 9 l r (am_set M o e) := rfl
theorem xi_208_9 : am_do xs 208 9 l st M = am_nx 15 l st M := rfl
theorem xi_208_12 : am_do xs 208 12 l st M = am_sta 3 13 l st M := rfl
theorem xi_208_13 : am_do xs 208 13 l st M = am_nx 14 l (.int 1 :: st) M := rfl
theorem xi_208_14 : am_do xs 208 14 l st M = am_rti st 0 := rfl
theorem xi_208_15 : am_do xs 208 15 l st M = am_nx 16 l (.int 0 :: st) M := rfl
theorem xi_208_16 : am_do xs 208 16 l st M = am_rti st 0 := rfl
theorem xi_209_0 : am_do xs 209 0 l st M = am_lda (am_lg l 2) 1 l st M := rfl
theorem xi_209_1 : am_do xs 209 1 l st M = am_nx 2 l (.int 0 :: st) M := rfl
theorem xi_209_2 : am_do xs 209 2 l st M = am_lda (am_lg l 0) 3 l st M := rfl
theorem xi_209_3 : am_do xs 209 3 l st M = am_ldi (am_lg l 1) 4 l st M := rfl
theorem xi_209_4 : am_do xs 209 4 l st M = am_inv 1 2 (.retAddr 7) st M := rfl
theorem xt_209_4 : am_to 209 4 = 55 := rfl
theorem xi_209_7 : am_do xs 209 7 l st M = am_i1 st fun x r => am_nx 8 l (.long x.toInt64 :: r) M := rfl
theorem xi_209_8 : am_do xs 209 8 l st M = am_via st fun w i o r => (am_wj (am_f M o) i w).bind fun e => am_nx 9 l r (am_set M o e) := rfl
theorem xi_209_9 : am_do xs 209 9 l st M = am_nx 15 l st M := rfl
theorem xi_209_12 : am_do xs 209 12 l st M = am_sta 3 13 l st M := rfl
theorem xi_209_13 : am_do xs 209 13 l st M = am_nx 14 l (.int 1 :: st) M := rfl
theorem xi_209_14 : am_do xs 209 14 l st M = am_rti st 0 := rfl
theorem xi_209_15 : am_do xs 209 15 l st M = am_nx 16 l (.int 0 :: st) M := rfl
theorem xi_209_16 : am_do xs 209 16 l st M = am_rti st 0 := rfl
theorem xi_210_0 : am_do xs 210 0 l st M = am_lda (am_lg l 2) 1 l st M := rfl
theorem xi_210_1 : am_do xs 210 1 l st M = am_nx 2 l (.int 0 :: st) M := rfl
theorem xi_210_2 : am_do xs 210 2 l st M = am_lda (am_lg l 0) 3 l st M := rfl
theorem xi_210_3 : am_do xs 210 3 l st M = am_ldi (am_lg l 1) 4 l st M := rfl
theorem xi_210_4 : am_do xs 210 4 l st M = am_inv 1 2 (.retAddr 7) st M := rfl
theorem xt_210_4 : am_to 210 4 = 56 := rfl
theorem xi_210_7 : am_do xs 210 7 l st M = am_i1 st fun x r => am_nx 8 l (.long x.toInt64 :: r) M := rfl
theorem xi_210_8 : am_do xs 210 8 l st M = am_via st fun w i o r => (am_wj (am_f M o) i w).bind fun e => am_nx 9 l r (am_set M o e) := rfl
theorem xi_210_9 : am_do xs 210 9 l st M = am_nx 15 l st M := rfl
theorem xi_210_12 : am_do xs 210 12 l st M = am_sta 3 13 l st M := rfl
theorem xi_210_13 : am_do xs 210 13 l st M = am_nx 14 l (.int 1 :: st) M := rfl
theorem xi_210_14 : am_do xs 210 14 l st M = am_rti st 0 := rfl
theorem xi_210_15 : am_do xs 210 15 l st M = am_nx 16 l (.int 0 :: st) M := rfl
theorem xi_210_16 : am_do xs 210 16 l st M = am_rti st 0 := rfl
theorem xi_211_0 : am_do xs 211 0 l st M = am_lda (am_lg l 3) 1 l st M := rfl
theorem xi_211_1 : am_do xs 211 1 l st M = am_nx 2 l (.int 0 :: st) M := rfl
theorem xi_211_2 : am_do xs 211 2 l st M = am_lda (am_lg l 0) 3 l st M := rfl
theorem xi_211_3 : am_do xs 211 3 l st M = am_ldi (am_lg l 1) 4 l st M := rfl
theorem xi_211_4 : am_do xs 211 4 l st M = am_ldi (am_lg l 2) 5 l st M := rfl
theorem xi_211_5 : am_do xs 211 5 l st M = am_inv 1 3 (.retAddr 7) st M := rfl
theorem xt_211_5 : am_to 211 5 = 57 := rfl
theorem xi_211_8 : am_do xs 211 8 l st M = am_i1 st fun x r => am_nx 9 l (.long x.toInt64 :: r) M := rfl
theorem xi_211_9 : am_do xs 211 9 l st M = am_via st fun w i o r => (am_wj (am_f M o) i w).bind fun e => am_nx 10 l r (am_set M o e) := rfl
theorem xi_211_10 : am_do xs 211 10 l st M = am_nx 17 l st M := rfl
theorem xi_211_13 : am_do xs 211 13 l st M = am_sta 4 15 l st M := rfl
theorem xi_211_15 : am_do xs 211 15 l st M = am_nx 16 l (.int 1 :: st) M := rfl
theorem xi_211_16 : am_do xs 211 16 l st M = am_rti st 0 := rfl
theorem xi_211_17 : am_do xs 211 17 l st M = am_nx 18 l (.int 0 :: st) M := rfl
theorem xi_211_18 : am_do xs 211 18 l st M = am_rti st 0 := rfl
theorem xi_212_0 : am_do xs 212 0 l st M = am_lda (am_lg l 2) 1 l st M := rfl
theorem xi_212_1 : am_do xs 212 1 l st M = am_nx 2 l (.int 0 :: st) M := rfl
theorem xi_212_2 : am_do xs 212 2 l st M = am_lda (am_lg l 0) 3 l st M := rfl
theorem xi_212_3 : am_do xs 212 3 l st M = am_ldi (am_lg l 1) 4 l st M := rfl
theorem xi_212_4 : am_do xs 212 4 l st M = am_inv 1 2 (.retAddr 7) st M := rfl
theorem xt_212_4 : am_to 212 4 = 58 := rfl
theorem xi_212_7 : am_do xs 212 7 l st M = am_via st fun w i o r => (am_wj (am_f M o) i w).bind fun e => am_nx 8 l r (am_set M o e) := rfl
theorem xi_212_8 : am_do xs 212 8 l st M = am_nx 14 l st M := rfl
theorem xi_212_11 : am_do xs 212 11 l st M = am_sta 3 12 l st M := rfl
theorem xi_212_12 : am_do xs 212 12 l st M = am_nx 13 l (.int 1 :: st) M := rfl
theorem xi_212_13 : am_do xs 212 13 l st M = am_rti st 0 := rfl
theorem xi_212_14 : am_do xs 212 14 l st M = am_nx 15 l (.int 0 :: st) M := rfl
theorem xi_212_15 : am_do xs 212 15 l st M = am_rti st 0 := rfl
theorem xi_213_0 : am_do xs 213 0 l st M = am_lda (am_lg l 3) 1 l st M := rfl
theorem xi_213_1 : am_do xs 213 1 l st M = am_nx 2 l (.int 0 :: st) M := rfl
theorem xi_213_2 : am_do xs 213 2 l st M = am_lda (am_lg l 0) 3 l st M := rfl
theorem xi_213_3 : am_do xs 213 3 l st M = am_ldj (am_lg l 1) 4 l st M := rfl
theorem xi_213_4 : am_do xs 213 4 l st M = am_inv 1 2 (.retAddr 7) st M := rfl
theorem xt_213_4 : am_to 213 4 = 60 := rfl
theorem xi_213_7 : am_do xs 213 7 l st M = am_via st fun w i o r => (am_wj (am_f M o) i w).bind fun e => am_nx 8 l r (am_set M o e) := rfl
theorem xi_213_8 : am_do xs 213 8 l st M = am_nx 15 l st M := rfl
theorem xi_213_11 : am_do xs 213 11 l st M = am_sta 4 13 l st M := rfl
theorem xi_213_13 : am_do xs 213 13 l st M = am_nx 14 l (.int 1 :: st) M := rfl
theorem xi_213_14 : am_do xs 213 14 l st M = am_rti st 0 := rfl
theorem xi_213_15 : am_do xs 213 15 l st M = am_nx 16 l (.int 0 :: st) M := rfl
theorem xi_213_16 : am_do xs 213 16 l st M = am_rti st 0 := rfl
theorem xi_214_0 : am_do xs 214 0 l st M = am_lda (am_lg l 3) 1 l st M := rfl
theorem xi_214_1 : am_do xs 214 1 l st M = am_nx 2 l (.int 0 :: st) M := rfl
theorem xi_214_2 : am_do xs 214 2 l st M = am_lda (am_lg l 0) 3 l st M := rfl
theorem xi_214_3 : am_do xs 214 3 l st M = am_ldi (am_lg l 1) 4 l st M := rfl
theorem xi_214_4 : am_do xs 214 4 l st M = am_ldi (am_lg l 2) 5 l st M := rfl
theorem xi_214_5 : am_do xs 214 5 l st M = am_inv 1 3 (.retAddr 7) st M := rfl
theorem xt_214_5 : am_to 214 5 = 61 := rfl
theorem xi_214_8 : am_do xs 214 8 l st M = am_via st fun w i o r => (am_wj (am_f M o) i w).bind fun e => am_nx 9 l r (am_set M o e) := rfl
theorem xi_214_9 : am_do xs 214 9 l st M = am_nx 16 l st M := rfl
theorem xi_214_12 : am_do xs 214 12 l st M = am_sta 4 14 l st M := rfl
theorem xi_214_14 : am_do xs 214 14 l st M = am_nx 15 l (.int 1 :: st) M := rfl
theorem xi_214_15 : am_do xs 214 15 l st M = am_rti st 0 := rfl
theorem xi_214_16 : am_do xs 214 16 l st M = am_nx 17 l (.int 0 :: st) M := rfl
theorem xi_214_17 : am_do xs 214 17 l st M = am_rti st 0 := rfl
theorem xi_215_0 : am_do xs 215 0 l st M = am_lda (am_lg l 2) 1 l st M := rfl
theorem xi_215_1 : am_do xs 215 1 l st M = am_nx 2 l (.int 0 :: st) M := rfl
theorem xi_215_2 : am_do xs 215 2 l st M = am_lda (am_lg l 0) 3 l st M := rfl
theorem xi_215_3 : am_do xs 215 3 l st M = am_ldi (am_lg l 1) 4 l st M := rfl
theorem xi_215_4 : am_do xs 215 4 l st M = am_inv 1 2 (.retAddr 7) st M := rfl
theorem xt_215_4 : am_to 215 4 = 62 := rfl
theorem xi_215_7 : am_do xs 215 7 l st M = am_via st fun w i o r => (am_wj (am_f M o) i w).bind fun e => am_nx 8 l r (am_set M o e) := rfl
theorem xi_215_8 : am_do xs 215 8 l st M = am_nx 14 l st M := rfl
theorem xi_215_11 : am_do xs 215 11 l st M = am_sta 3 12 l st M := rfl
theorem xi_215_12 : am_do xs 215 12 l st M = am_nx 13 l (.int 1 :: st) M := rfl
theorem xi_215_13 : am_do xs 215 13 l st M = am_rti st 0 := rfl
theorem xi_215_14 : am_do xs 215 14 l st M = am_nx 15 l (.int 0 :: st) M := rfl
theorem xi_215_15 : am_do xs 215 15 l st M = am_rti st 0 := rfl
theorem xi_216_0 : am_do xs 216 0 l st M = am_lda (am_lg l 3) 1 l st M := rfl
theorem xi_216_1 : am_do xs 216 1 l st M = am_nx 2 l (.int 0 :: st) M := rfl
theorem xi_216_2 : am_do xs 216 2 l st M = am_lda (am_lg l 0) 3 l st M := rfl
theorem xi_216_3 : am_do xs 216 3 l st M = am_ldi (am_lg l 1) 4 l st M := rfl
theorem xi_216_4 : am_do xs 216 4 l st M = am_ldi (am_lg l 2) 5 l st M := rfl
theorem xi_216_5 : am_do xs 216 5 l st M = am_inv 1 3 (.retAddr 7) st M := rfl
theorem xt_216_5 : am_to 216 5 = 63 := rfl
theorem xi_216_8 : am_do xs 216 8 l st M = am_via st fun w i o r => (am_wj (am_f M o) i w).bind fun e => am_nx 9 l r (am_set M o e) := rfl
theorem xi_216_9 : am_do xs 216 9 l st M = am_nx 16 l st M := rfl
theorem xi_216_12 : am_do xs 216 12 l st M = am_sta 4 14 l st M := rfl
theorem xi_216_14 : am_do xs 216 14 l st M = am_nx 15 l (.int 1 :: st) M := rfl
theorem xi_216_15 : am_do xs 216 15 l st M = am_rti st 0 := rfl
theorem xi_216_16 : am_do xs 216 16 l st M = am_nx 17 l (.int 0 :: st) M := rfl
theorem xi_216_17 : am_do xs 216 17 l st M = am_rti st 0 := rfl
theorem xi_217_0 : am_do xs 217 0 l st M = am_lda (am_lg l 3) 1 l st M := rfl
theorem xi_217_1 : am_do xs 217 1 l st M = am_nx 2 l (.int 0 :: st) M := rfl
theorem xi_217_2 : am_do xs 217 2 l st M = am_lda (am_lg l 0) 3 l st M := rfl
theorem xi_217_3 : am_do xs 217 3 l st M = am_ldi (am_lg l 1) 4 l st M := rfl
theorem xi_217_4 : am_do xs 217 4 l st M = am_ldi (am_lg l 2) 5 l st M := rfl
theorem xi_217_5 : am_do xs 217 5 l st M = am_inv 1 3 (.retAddr 7) st M := rfl
theorem xt_217_5 : am_to 217 5 = 64 := rfl
theorem xi_217_8 : am_do xs 217 8 l st M = am_i1 st fun x r => am_nx (if x = 0 then 15 else 11) l r M := rfl
theorem xi_217_11 : am_do xs 217 11 l st M = am_nx 12 l (.long 1 :: st) M := rfl
theorem xi_217_12 : am_do xs 217 12 l st M = am_nx 16 l st M := rfl
theorem xi_217_15 : am_do xs 217 15 l st M = am_nx 16 l (.long 0 :: st) M := rfl
theorem xi_217_16 : am_do xs 217 16 l st M = am_via st fun w i o r => (am_wj (am_f M o) i w).bind fun e => am_nx 17 l r (am_set M o e) := rfl
theorem xi_217_17 : am_do xs 217 17 l st M = am_nx 24 l st M := rfl
theorem xi_217_20 : am_do xs 217 20 l st M = am_sta 4 22 l st M := rfl
theorem xi_217_22 : am_do xs 217 22 l st M = am_nx 23 l (.int 1 :: st) M := rfl
theorem xi_217_23 : am_do xs 217 23 l st M = am_rti st 0 := rfl
theorem xi_217_24 : am_do xs 217 24 l st M = am_nx 25 l (.int 0 :: st) M := rfl
theorem xi_217_25 : am_do xs 217 25 l st M = am_rti st 0 := rfl
theorem xi_218_0 : am_do xs 218 0 l st M = am_lda (am_lg l 3) 1 l st M := rfl
theorem xi_218_1 : am_do xs 218 1 l st M = am_nx 2 l (.int 0 :: st) M := rfl
theorem xi_218_2 : am_do xs 218 2 l st M = am_lda (am_lg l 0) 3 l st M := rfl
theorem xi_218_3 : am_do xs 218 3 l st M = am_ldi (am_lg l 1) 4 l st M := rfl
theorem xi_218_4 : am_do xs 218 4 l st M = am_ldi (am_lg l 2) 5 l st M := rfl
theorem xi_218_5 : am_do xs 218 5 l st M = am_inv 1 3 (.retAddr 7) st M := rfl
theorem xt_218_5 : am_to 218 5 = 65 := rfl
theorem xi_218_8 : am_do xs 218 8 l st M = am_i1 st fun x r => am_nx 9 l (.long x.toInt64 :: r) M := rfl
theorem xi_218_9 : am_do xs 218 9 l st M = am_via st fun w i o r => (am_wj (am_f M o) i w).bind fun e => am_nx 10 l r (am_set M o e) := rfl
theorem xi_218_10 : am_do xs 218 10 l st M = am_nx 17 l st M := rfl
theorem xi_218_13 : am_do xs 218 13 l st M = am_sta 4 15 l st M := rfl
theorem xi_218_15 : am_do xs 218 15 l st M = am_nx 16 l (.int 1 :: st) M := rfl
theorem xi_218_16 : am_do xs 218 16 l st M = am_rti st 0 := rfl
theorem xi_218_17 : am_do xs 218 17 l st M = am_nx 18 l (.int 0 :: st) M := rfl
theorem xi_218_18 : am_do xs 218 18 l st M = am_rti st 0 := rfl
theorem xi_219_0 : am_do xs 219 0 l st M = am_lda (am_lg l 2) 1 l st M := rfl
theorem xi_219_1 : am_do xs 219 1 l st M = am_nx 2 l (.int 0 :: st) M := rfl
theorem xi_219_2 : am_do xs 219 2 l st M = am_lda (am_lg l 0) 3 l st M := rfl
theorem xi_219_3 : am_do xs 219 3 l st M = am_ldi (am_lg l 1) 4 l st M := rfl
theorem xi_219_4 : am_do xs 219 4 l st M = am_inv 1 2 (.retAddr 7) st M := rfl
theorem xt_219_4 : am_to 219 4 = 66 := rfl
theorem xi_219_7 : am_do xs 219 7 l st M = am_via st fun w i o r => (am_wj (am_f M o) i w).bind fun e => am_nx 8 l r (am_set M o e) := rfl
theorem xi_219_8 : am_do xs 219 8 l st M = am_nx 17 l st M := rfl
theorem xi_219_11 : am_do xs 219 11 l st M = am_sta 3 12 l st M := rfl
theorem xi_219_12 : am_do xs 219 12 l st M = am_nx 13 l (.int 1 :: st) M := rfl
theorem xi_219_13 : am_do xs 219 13 l st M = am_rti st 0 := rfl
theorem xi_219_14 : am_do xs 219 14 l st M = am_sta 3 15 l st M := rfl
theorem xi_219_15 : am_do xs 219 15 l st M = am_nx 16 l (.int 2 :: st) M := rfl
theorem xi_219_16 : am_do xs 219 16 l st M = am_rti st 0 := rfl
theorem xi_219_17 : am_do xs 219 17 l st M = am_nx 18 l (.int 0 :: st) M := rfl
theorem xi_219_18 : am_do xs 219 18 l st M = am_rti st 0 := rfl
theorem xi_220_0 : am_do xs 220 0 l st M = am_lda (am_lg l 2) 1 l st M := rfl
theorem xi_220_1 : am_do xs 220 1 l st M = am_nx 2 l (.int 0 :: st) M := rfl
theorem xi_220_2 : am_do xs 220 2 l st M = am_lda (am_lg l 0) 3 l st M := rfl
theorem xi_220_3 : am_do xs 220 3 l st M = am_ldi (am_lg l 1) 4 l st M := rfl
theorem xi_220_4 : am_do xs 220 4 l st M = am_inv 1 2 (.retAddr 7) st M := rfl
theorem xt_220_4 : am_to 220 4 = 67 := rfl
theorem xi_220_7 : am_do xs 220 7 l st M = am_via st fun w i o r => (am_wj (am_f M o) i w).bind fun e => am_nx 8 l r (am_set M o e) := rfl
theorem xi_220_8 : am_do xs 220 8 l st M = am_nx 17 l st M := rfl
theorem xi_220_11 : am_do xs 220 11 l st M = am_sta 3 12 l st M := rfl
theorem xi_220_12 : am_do xs 220 12 l st M = am_nx 13 l (.int 1 :: st) M := rfl
theorem xi_220_13 : am_do xs 220 13 l st M = am_rti st 0 := rfl
theorem xi_220_14 : am_do xs 220 14 l st M = am_sta 3 15 l st M := rfl
theorem xi_220_15 : am_do xs 220 15 l st M = am_nx 16 l (.int 2 :: st) M := rfl
theorem xi_220_16 : am_do xs 220 16 l st M = am_rti st 0 := rfl
theorem xi_220_17 : am_do xs 220 17 l st M = am_nx 18 l (.int 0 :: st) M := rfl
theorem xi_220_18 : am_do xs 220 18 l st M = am_rti st 0 := rfl
theorem xi_221_0 : am_do xs 221 0 l st M = am_lda (am_lg l 3) 1 l st M := rfl
theorem xi_221_1 : am_do xs 221 1 l st M = am_nx 2 l (.int 0 :: st) M := rfl
theorem xi_221_2 : am_do xs 221 2 l st M = am_lda (am_lg l 0) 3 l st M := rfl
theorem xi_221_3 : am_do xs 221 3 l st M = am_ldj (am_lg l 1) 4 l st M := rfl
theorem xi_221_4 : am_do xs 221 4 l st M = am_inv 1 2 (.retAddr 7) st M := rfl
theorem xt_221_4 : am_to 221 4 = 68 := rfl
theorem xi_221_7 : am_do xs 221 7 l st M = am_via st fun w i o r => (am_wj (am_f M o) i w).bind fun e => am_nx 8 l r (am_set M o e) := rfl
theorem xi_221_8 : am_do xs 221 8 l st M = am_nx 15 l st M := rfl
theorem xi_221_11 : am_do xs 221 11 l st M = am_sta 4 13 l st M := rfl
theorem xi_221_13 : am_do xs 221 13 l st M = am_nx 14 l (.int 1 :: st) M := rfl
theorem xi_221_14 : am_do xs 221 14 l st M = am_rti st 0 := rfl
theorem xi_221_15 : am_do xs 221 15 l st M = am_nx 16 l (.int 0 :: st) M := rfl
theorem xi_221_16 : am_do xs 221 16 l st M = am_rti st 0 := rfl
theorem xi_222_0 : am_do xs 222 0 l st M = am_lda (am_lg l 2) 1 l st M := rfl
theorem xi_222_1 : am_do xs 222 1 l st M = am_nx 2 l (.int 0 :: st) M := rfl
theorem xi_222_2 : am_do xs 222 2 l st M = am_lda (am_lg l 0) 3 l st M := rfl
theorem xi_222_3 : am_do xs 222 3 l st M = am_ldi (am_lg l 1) 4 l st M := rfl
theorem xi_222_4 : am_do xs 222 4 l st M = am_inv 1 2 (.retAddr 7) st M := rfl
theorem xt_222_4 : am_to 222 4 = 69 := rfl
theorem xi_222_7 : am_do xs 222 7 l st M = am_i1 st fun x r => am_nx 8 l (.long x.toInt64 :: r) M := rfl
theorem xi_222_8 : am_do xs 222 8 l st M = am_via st fun w i o r => (am_wj (am_f M o) i w).bind fun e => am_nx 9 l r (am_set M o e) := rfl
theorem xi_222_9 : am_do xs 222 9 l st M = am_nx 15 l st M := rfl
theorem xi_222_12 : am_do xs 222 12 l st M = am_sta 3 13 l st M := rfl
theorem xi_222_13 : am_do xs 222 13 l st M = am_nx 14 l (.int 1 :: st) M := rfl
theorem xi_222_14 : am_do xs 222 14 l st M = am_rti st 0 := rfl
theorem xi_222_15 : am_do xs 222 15 l st M = am_nx 16 l (.int 0 :: st) M := rfl
theorem xi_222_16 : am_do xs 222 16 l st M = am_rti st 0 := rfl
theorem xi_223_0 : am_do xs 223 0 l st M = am_lda (am_lg l 2) 1 l st M := rfl
theorem xi_223_1 : am_do xs 223 1 l st M = am_nx 2 l (.int 0 :: st) M := rfl
theorem xi_223_2 : am_do xs 223 2 l st M = am_lda (am_lg l 0) 3 l st M := rfl
theorem xi_223_3 : am_do xs 223 3 l st M = am_ldi (am_lg l 1) 4 l st M := rfl
theorem xi_223_4 : am_do xs 223 4 l st M = am_inv 1 2 (.retAddr 7) st M := rfl
theorem xt_223_4 : am_to 223 4 = 70 := rfl
theorem xi_223_7 : am_do xs 223 7 l st M = am_via st fun w i o r => (am_wd (am_f M o) i w).bind fun e => am_nx 8 l r (am_set M o e) := rfl
theorem xi_223_8 : am_do xs 223 8 l st M = am_nx 17 l st M := rfl
theorem xi_223_11 : am_do xs 223 11 l st M = am_sta 3 12 l st M := rfl
theorem xi_223_12 : am_do xs 223 12 l st M = am_nx 13 l (.int 1 :: st) M := rfl
theorem xi_223_13 : am_do xs 223 13 l st M = am_rti st 0 := rfl
theorem xi_223_14 : am_do xs 223 14 l st M = am_sta 3 15 l st M := rfl
theorem xi_223_15 : am_do xs 223 15 l st M = am_nx 16 l (.int 2 :: st) M := rfl
theorem xi_223_16 : am_do xs 223 16 l st M = am_rti st 0 := rfl
theorem xi_223_17 : am_do xs 223 17 l st M = am_nx 18 l (.int 0 :: st) M := rfl
theorem xi_223_18 : am_do xs 223 18 l st M = am_rti st 0 := rfl
theorem xi_224_0 : am_do xs 224 0 l st M = am_lda (am_lg l 2) 1 l st M := rfl
theorem xi_224_1 : am_do xs 224 1 l st M = am_nx 2 l (.int 0 :: st) M := rfl
theorem xi_224_2 : am_do xs 224 2 l st M = am_lda (am_lg l 0) 3 l st M := rfl
theorem xi_224_3 : am_do xs 224 3 l st M = am_ldi (am_lg l 1) 4 l st M := rfl
theorem xi_224_4 : am_do xs 224 4 l st M = am_inv 1 2 (.retAddr 7) st M := rfl
theorem xt_224_4 : am_to 224 4 = 71 := rfl
theorem xi_224_7 : am_do xs 224 7 l st M = am_via st fun w i o r => (am_wd (am_f M o) i w).bind fun e => am_nx 8 l r (am_set M o e) := rfl
theorem xi_224_8 : am_do xs 224 8 l st M = am_nx 17 l st M := rfl
theorem xi_224_11 : am_do xs 224 11 l st M = am_sta 3 12 l st M := rfl
theorem xi_224_12 : am_do xs 224 12 l st M = am_nx 13 l (.int 1 :: st) M := rfl
theorem xi_224_13 : am_do xs 224 13 l st M = am_rti st 0 := rfl
theorem xi_224_14 : am_do xs 224 14 l st M = am_sta 3 15 l st M := rfl
theorem xi_224_15 : am_do xs 224 15 l st M = am_nx 16 l (.int 2 :: st) M := rfl
theorem xi_224_16 : am_do xs 224 16 l st M = am_rti st 0 := rfl
theorem xi_224_17 : am_do xs 224 17 l st M = am_nx 18 l (.int 0 :: st) M := rfl
theorem xi_224_18 : am_do xs 224 18 l st M = am_rti st 0 := rfl
theorem xi_225_0 : am_do xs 225 0 l st M = am_lda (am_lg l 2) 1 l st M := rfl
theorem xi_225_1 : am_do xs 225 1 l st M = am_nx 2 l (.int 0 :: st) M := rfl
theorem xi_225_2 : am_do xs 225 2 l st M = am_lda (am_lg l 0) 3 l st M := rfl
theorem xi_225_3 : am_do xs 225 3 l st M = am_ldi (am_lg l 1) 4 l st M := rfl
theorem xi_225_4 : am_do xs 225 4 l st M = am_inv 1 2 (.retAddr 7) st M := rfl
theorem xt_225_4 : am_to 225 4 = 72 := rfl
theorem xi_225_7 : am_do xs 225 7 l st M = am_i1 st fun x r => am_nx 8 l (.long x.toInt64 :: r) M := rfl
theorem xi_225_8 : am_do xs 225 8 l st M = am_via st fun w i o r => (am_wj (am_f M o) i w).bind fun e => am_nx 9 l r (am_set M o e) := rfl
theorem xi_225_9 : am_do xs 225 9 l st M = am_nx 15 l st M := rfl
theorem xi_225_12 : am_do xs 225 12 l st M = am_sta 3 13 l st M := rfl
theorem xi_225_13 : am_do xs 225 13 l st M = am_nx 14 l (.int 1 :: st) M := rfl
theorem xi_225_14 : am_do xs 225 14 l st M = am_rti st 0 := rfl
theorem xi_225_15 : am_do xs 225 15 l st M = am_nx 16 l (.int 0 :: st) M := rfl
theorem xi_225_16 : am_do xs 225 16 l st M = am_rti st 0 := rfl
theorem xi_226_0 : am_do xs 226 0 l st M = am_lda (am_lg l 2) 1 l st M := rfl
theorem xi_226_1 : am_do xs 226 1 l st M = am_nx 2 l (.int 0 :: st) M := rfl
theorem xi_226_2 : am_do xs 226 2 l st M = am_lda (am_lg l 0) 3 l st M := rfl
theorem xi_226_3 : am_do xs 226 3 l st M = am_ldi (am_lg l 1) 4 l st M := rfl
theorem xi_226_4 : am_do xs 226 4 l st M = am_inv 1 2 (.retAddr 7) st M := rfl
theorem xt_226_4 : am_to 226 4 = 73 := rfl
theorem xi_226_7 : am_do xs 226 7 l st M = am_via st fun w i o r => (am_wj (am_f M o) i w).bind fun e => am_nx 8 l r (am_set M o e) := rfl
theorem xi_226_8 : am_do xs 226 8 l st M = am_nx 14 l st M := rfl
theorem xi_226_11 : am_do xs 226 11 l st M = am_sta 3 12 l st M := rfl
theorem xi_226_12 : am_do xs 226 12 l st M = am_nx 13 l (.int 1 :: st) M := rfl
theorem xi_226_13 : am_do xs 226 13 l st M = am_rti st 0 := rfl
theorem xi_226_14 : am_do xs 226 14 l st M = am_nx 15 l (.int 0 :: st) M := rfl
theorem xi_226_15 : am_do xs 226 15 l st M = am_rti st 0 := rfl
theorem xi_227_0 : am_do xs 227 0 l st M = am_lda (am_lg l 2) 1 l st M := rfl
theorem xi_227_1 : am_do xs 227 1 l st M = am_nx 2 l (.int 0 :: st) M := rfl
theorem xi_227_2 : am_do xs 227 2 l st M = am_lda (am_lg l 0) 3 l st M := rfl
theorem xi_227_3 : am_do xs 227 3 l st M = am_ldi (am_lg l 1) 4 l st M := rfl
theorem xi_227_4 : am_do xs 227 4 l st M = am_inv 1 2 (.retAddr 7) st M := rfl
theorem xt_227_4 : am_to 227 4 = 74 := rfl
theorem xi_227_7 : am_do xs 227 7 l st M = am_via st fun w i o r => (am_wd (am_f M o) i w).bind fun e => am_nx 8 l r (am_set M o e) := rfl
theorem xi_227_8 : am_do xs 227 8 l st M = am_nx 17 l st M := rfl
theorem xi_227_11 : am_do xs 227 11 l st M = am_sta 3 12 l st M := rfl
theorem xi_227_12 : am_do xs 227 12 l st M = am_nx 13 l (.int 1 :: st) M := rfl
theorem xi_227_13 : am_do xs 227 13 l st M = am_rti st 0 := rfl
theorem xi_227_14 : am_do xs 227 14 l st M = am_sta 3 15 l st M := rfl
theorem xi_227_15 : am_do xs 227 15 l st M = am_nx 16 l (.int 2 :: st) M := rfl
theorem xi_227_16 : am_do xs 227 16 l st M = am_rti st 0 := rfl
theorem xi_227_17 : am_do xs 227 17 l st M = am_nx 18 l (.int 0 :: st) M := rfl
theorem xi_227_18 : am_do xs 227 18 l st M = am_rti st 0 := rfl
theorem xi_228_0 : am_do xs 228 0 l st M = am_lda (am_lg l 2) 1 l st M := rfl
theorem xi_228_1 : am_do xs 228 1 l st M = am_nx 2 l (.int 0 :: st) M := rfl
theorem xi_228_2 : am_do xs 228 2 l st M = am_lda (am_lg l 0) 3 l st M := rfl
theorem xi_228_3 : am_do xs 228 3 l st M = am_ldi (am_lg l 1) 4 l st M := rfl
theorem xi_228_4 : am_do xs 228 4 l st M = am_inv 1 2 (.retAddr 7) st M := rfl
theorem xt_228_4 : am_to 228 4 = 75 := rfl
theorem xi_228_7 : am_do xs 228 7 l st M = am_via st fun w i o r => (am_wd (am_f M o) i w).bind fun e => am_nx 8 l r (am_set M o e) := rfl
theorem xi_228_8 : am_do xs 228 8 l st M = am_nx 17 l st M := rfl
theorem xi_228_11 : am_do xs 228 11 l st M = am_sta 3 12 l st M := rfl
theorem xi_228_12 : am_do xs 228 12 l st M = am_nx 13 l (.int 1 :: st) M := rfl
theorem xi_228_13 : am_do xs 228 13 l st M = am_rti st 0 := rfl
theorem xi_228_14 : am_do xs 228 14 l st M = am_sta 3 15 l st M := rfl
theorem xi_228_15 : am_do xs 228 15 l st M = am_nx 16 l (.int 2 :: st) M := rfl
theorem xi_228_16 : am_do xs 228 16 l st M = am_rti st 0 := rfl
theorem xi_228_17 : am_do xs 228 17 l st M = am_nx 18 l (.int 0 :: st) M := rfl
theorem xi_228_18 : am_do xs 228 18 l st M = am_rti st 0 := rfl
theorem xi_229_0 : am_do xs 229 0 l st M = am_lda (am_lg l 2) 1 l st M := rfl
theorem xi_229_1 : am_do xs 229 1 l st M = am_nx 2 l (.int 0 :: st) M := rfl
theorem xi_229_2 : am_do xs 229 2 l st M = am_lda (am_lg l 0) 3 l st M := rfl
theorem xi_229_3 : am_do xs 229 3 l st M = am_ldi (am_lg l 1) 4 l st M := rfl
theorem xi_229_4 : am_do xs 229 4 l st M = am_inv 1 2 (.retAddr 7) st M := rfl
theorem xt_229_4 : am_to 229 4 = 76 := rfl
theorem xi_229_7 : am_do xs 229 7 l st M = am_via st fun w i o r => (am_wd (am_f M o) i w).bind fun e => am_nx 8 l r (am_set M o e) := rfl
theorem xi_229_8 : am_do xs 229 8 l st M = am_nx 17 l st M := rfl
theorem xi_229_11 : am_do xs 229 11 l st M = am_sta 3 12 l st M := rfl
theorem xi_229_12 : am_do xs 229 12 l st M = am_nx 13 l (.int 1 :: st) M := rfl
theorem xi_229_13 : am_do xs 229 13 l st M = am_rti st 0 := rfl
theorem xi_229_14 : am_do xs 229 14 l st M = am_sta 3 15 l st M := rfl
theorem xi_229_15 : am_do xs 229 15 l st M = am_nx 16 l (.int 2 :: st) M := rfl
theorem xi_229_16 : am_do xs 229 16 l st M = am_rti st 0 := rfl
theorem xi_229_17 : am_do xs 229 17 l st M = am_nx 18 l (.int 0 :: st) M := rfl
theorem xi_229_18 : am_do xs 229 18 l st M = am_rti st 0 := rfl
theorem xi_230_0 : am_do xs 230 0 l st M = am_lda (am_lg l 2) 1 l st M := rfl
theorem xi_230_1 : am_do xs 230 1 l st M = am_nx 2 l (.int 0 :: st) M := rfl
theorem xi_230_2 : am_do xs 230 2 l st M = am_lda (am_lg l 0) 3 l st M := rfl
theorem xi_230_3 : am_do xs 230 3 l st M = am_ldi (am_lg l 1) 4 l st M := rfl
theorem xi_230_4 : am_do xs 230 4 l st M = am_inv 1 2 (.retAddr 7) st M := rfl
theorem xt_230_4 : am_to 230 4 = 77 := rfl
theorem xi_230_7 : am_do xs 230 7 l st M = am_via st fun w i o r => (am_wj (am_f M o) i w).bind fun e => am_nx 8 l r (am_set M o e) := rfl
theorem xi_230_8 : am_do xs 230 8 l st M = am_nx 17 l st M := rfl
theorem xi_230_11 : am_do xs 230 11 l st M = am_sta 3 12 l st M := rfl
theorem xi_230_12 : am_do xs 230 12 l st M = am_nx 13 l (.int 1 :: st) M := rfl
theorem xi_230_13 : am_do xs 230 13 l st M = am_rti st 0 := rfl
theorem xi_230_14 : am_do xs 230 14 l st M = am_sta 3 15 l st M := rfl
theorem xi_230_15 : am_do xs 230 15 l st M = am_nx 16 l (.int 2 :: st) M := rfl
theorem xi_230_16 : am_do xs 230 16 l st M = am_rti st 0 := rfl
theorem xi_230_17 : am_do xs 230 17 l st M = am_nx 18 l (.int 0 :: st) M := rfl
theorem xi_230_18 : am_do xs 230 18 l st M = am_rti st 0 := rfl
theorem xi_231_0 : am_do xs 231 0 l st M = am_lda (am_lg l 2) 1 l st M := rfl
theorem xi_231_1 : am_do xs 231 1 l st M = am_nx 2 l (.int 0 :: st) M := rfl
theorem xi_231_2 : am_do xs 231 2 l st M = am_lda (am_lg l 0) 3 l st M := rfl
theorem xi_231_3 : am_do xs 231 3 l st M = am_ldi (am_lg l 1) 4 l st M := rfl
theorem xi_231_4 : am_do xs 231 4 l st M = am_inv 1 2 (.retAddr 7) st M := rfl
theorem xt_231_4 : am_to 231 4 = 78 := rfl
theorem xi_231_7 : am_do xs 231 7 l st M = am_via st fun w i o r => (am_wj (am_f M o) i w).bind fun e => am_nx 8 l r (am_set M o e) := rfl
theorem xi_231_8 : am_do xs 231 8 l st M = am_nx 14 l st M := rfl
theorem xi_231_11 : am_do xs 231 11 l st M = am_sta 3 12 l st M := rfl
theorem xi_231_12 : am_do xs 231 12 l st M = am_nx 13 l (.int 1 :: st) M := rfl
theorem xi_231_13 : am_do xs 231 13 l st M = am_rti st 0 := rfl
theorem xi_231_14 : am_do xs 231 14 l st M = am_nx 15 l (.int 0 :: st) M := rfl
theorem xi_231_15 : am_do xs 231 15 l st M = am_rti st 0 := rfl
theorem xi_232_0 : am_do xs 232 0 l st M = am_nx 3 l (.ref M.1 :: st) (am_new M (am_nf 7).length (.inr (7, am_nf 7))) := rfl
theorem xi_232_3 : am_do xs 232 3 l st M = am_dup st 4 l M := rfl
theorem xi_232_4 : am_do xs 232 4 l st M = am_inv 2 1 (.retAddr 7) st M := rfl
theorem xt_232_4 : am_to 232 4 = 27 := rfl
theorem xi_232_7 : am_do xs 232 7 l st M = am_sta 1 8 l st M := rfl
theorem xi_232_8 : am_do xs 232 8 l st M = am_nx 11 l (.ref M.1 :: st) (am_new M (am_nf 8).length (.inr (8, am_nf 8))) := rfl
theorem xi_232_11 : am_do xs 232 11 l st M = am_dup st 12 l M := rfl
theorem xi_232_12 : am_do xs 232 12 l st M = am_inv 2 1 (.retAddr 8) st M := rfl
theorem xt_232_12 : am_to 232 12 = 103 := rfl
theorem xi_232_15 : am_do xs 232 15 l st M = am_sta 2 16 l st M := rfl
theorem xi_232_16 : am_do xs 232 16 l st M = am_nx 17 l (.int 1 :: st) M := rfl
theorem xi_232_17 : am_do xs 232 17 l st M = am_i1 st fun n r => if n < 0 ∨ 100000 < n.toNatClampNeg then none else am_nx 19 l (.ref M.1 :: r) (am_new M n.toNatClampNeg (am_na 1 n.toNatClampNeg)) := rfl
theorem xi_232_19 : am_do xs 232 19 l st M = am_sta 3 20 l st M := rfl
theorem xi_232_20 : am_do xs 232 20 l st M = am_nx 21 l (.int 1 :: st) M := rfl
theorem xi_232_21 : am_do xs 232 21 l st M = am_i1 st fun n r => if n < 0 ∨ 100000 < n.toNatClampNeg then none else am_nx 23 l (.ref M.1 :: r) (am_new M n.toNatClampNeg (am_na 3 n.toNatClampNeg)) := rfl
theorem xi_232_23 : am_do xs 232 23 l st M = am_sta 4 25 l st M := rfl
theorem xi_232_25 : am_do xs 232 25 l st M = am_nx 26 l (.int 0 :: st) M := rfl
theorem xi_232_26 : am_do xs 232 26 l st M = am_i1 st fun x r => am_nx 28 (am_s1 l 5 (.int x)) r M := rfl
theorem xi_232_28 : am_do xs 232 28 l st M = am_ldi (am_lg l 5) 30 l st M := rfl
theorem xi_232_30 : am_do xs 232 30 l st M = am_lda (am_lg l 0) 31 l st M := rfl
theorem xi_232_31 : am_do xs 232 31 l st M = am_aln xs st 32 l M := rfl
theorem xi_232_32 : am_do xs 232 32 l st M = am_nx 33 l (.int 4 :: st) M := rfl
theorem xi_232_33 : am_do xs 232 33 l st M = am_i2 st fun x y r => am_nx 34 l (.int (x - y) :: r) M := rfl
theorem xi_232_34 : am_do xs 232 34 l st M = am_i2 st fun x y r => am_nx (if y < x then 3095 else 37) l r M := rfl
theorem xi_232_37 : am_do xs 232 37 l st M = am_lda (am_lg l 0) 38 l st M := rfl
theorem xi_232_38 : am_do xs 232 38 l st M = am_ldi (am_lg l 5) 40 l st M := rfl
theorem xi_232_40 : am_do xs 232 40 l st M = am_ial xs st 41 l M := rfl
theorem xi_232_41 : am_do xs 232 41 l st M = am_nx 43 l (.int 63 :: st) M := rfl
theorem xi_232_43 : am_do xs 232 43 l st M = am_i2 st fun x y r => am_nx 44 l (.int (x &&& y) :: r) M := rfl
theorem xi_232_268 : am_do xs 232 268 l st M = am_lda (am_lg l 1) 269 l st M := rfl
theorem xi_232_269 : am_do xs 232 269 l st M = am_lda (am_lg l 0) 270 l st M := rfl
theorem xi_232_270 : am_do xs 232 270 l st M = am_ldi (am_lg l 5) 272 l st M := rfl
theorem xi_232_272 : am_do xs 232 272 l st M = am_nx 273 l (.int 1 :: st) M := rfl
theorem xi_232_273 : am_do xs 232 273 l st M = am_i2 st fun x y r => am_nx 274 l (.int (x + y) :: r) M := rfl
theorem xi_232_274 : am_do xs 232 274 l st M = am_ial xs st 275 l M := rfl
theorem xi_232_275 : am_do xs 232 275 l st M = am_i1 st fun x r => am_nx 276 l (.long x.toInt64 :: r) M := rfl
theorem xi_232_276 : am_do xs 232 276 l st M = am_nx 278 l (.int 32 :: st) M := rfl
theorem xi_232_278 : am_do xs 232 278 l st M = am_ij st fun x y r => am_nx 279 l (.long (x <<< (y.toInt64 &&& 63)) :: r) M := rfl
theorem xi_232_279 : am_do xs 232 279 l st M = am_lda (am_lg l 0) 280 l st M := rfl
theorem xi_232_280 : am_do xs 232 280 l st M = am_ldi (am_lg l 5) 282 l st M := rfl
theorem xi_232_282 : am_do xs 232 282 l st M = am_nx 283 l (.int 2 :: st) M := rfl
theorem xi_232_283 : am_do xs 232 283 l st M = am_i2 st fun x y r => am_nx 284 l (.int (x + y) :: r) M := rfl
theorem xi_232_284 : am_do xs 232 284 l st M = am_ial xs st 285 l M := rfl
theorem xi_232_285 : am_do xs 232 285 l st M = am_i1 st fun x r => am_nx 286 l (.long x.toInt64 :: r) M := rfl
theorem xi_232_286 : am_do xs 232 286 l st M = am_nx 289 l (.long 4294967295 :: st) M := rfl
theorem xi_232_289 : am_do xs 232 289 l st M = am_j2 st fun x y r => am_nx 290 l (.long (x &&& y) :: r) M := rfl
theorem xi_232_290 : am_do xs 232 290 l st M = am_j2 st fun x y r => am_nx 291 l (.long (x ||| y) :: r) M := rfl
theorem xi_232_291 : am_do xs 232 291 l st M = am_lda (am_lg l 0) 292 l st M := rfl
theorem xi_232_292 : am_do xs 232 292 l st M = am_ldi (am_lg l 5) 294 l st M := rfl
theorem xi_232_294 : am_do xs 232 294 l st M = am_nx 295 l (.int 3 :: st) M := rfl
theorem xi_232_295 : am_do xs 232 295 l st M = am_i2 st fun x y r => am_nx 296 l (.int (x + y) :: r) M := rfl
theorem xi_232_296 : am_do xs 232 296 l st M = am_ial xs st 297 l M := rfl
theorem xi_232_297 : am_do xs 232 297 l st M = am_inv 0 3 (.retAddr 100) st M := rfl
theorem xt_232_297 : am_to 232 297 = 189 := rfl
theorem xi_232_300 : am_do xs 232 300 l st M = am_i1 st fun x r => am_nx 302 (am_s1 l 6 (.int x)) r M := rfl
theorem xi_232_302 : am_do xs 232 302 l st M = am_lda (am_lg l 2) 303 l st M := rfl
theorem xi_232_303 : am_do xs 232 303 l st M = am_lda (am_lg l 0) 304 l st M := rfl
theorem xi_232_304 : am_do xs 232 304 l st M = am_ldi (am_lg l 5) 306 l st M := rfl
theorem xi_232_306 : am_do xs 232 306 l st M = am_nx 307 l (.int 1 :: st) M := rfl
theorem xi_232_307 : am_do xs 232 307 l st M = am_i2 st fun x y r => am_nx 308 l (.int (x + y) :: r) M := rfl
theorem xi_232_308 : am_do xs 232 308 l st M = am_ial xs st 309 l M := rfl
theorem xi_232_309 : am_do xs 232 309 l st M = am_i1 st fun x r => am_nx 310 l (.long x.toInt64 :: r) M := rfl
theorem xi_232_310 : am_do xs 232 310 l st M = am_nx 312 l (.int 32 :: st) M := rfl
theorem xi_232_312 : am_do xs 232 312 l st M = am_ij st fun x y r => am_nx 313 l (.long (x <<< (y.toInt64 &&& 63)) :: r) M := rfl
theorem xi_232_313 : am_do xs 232 313 l st M = am_lda (am_lg l 0) 314 l st M := rfl
theorem xi_232_314 : am_do xs 232 314 l st M = am_ldi (am_lg l 5) 316 l st M := rfl
theorem xi_232_316 : am_do xs 232 316 l st M = am_nx 317 l (.int 2 :: st) M := rfl
theorem xi_232_317 : am_do xs 232 317 l st M = am_i2 st fun x y r => am_nx 318 l (.int (x + y) :: r) M := rfl
theorem xi_232_318 : am_do xs 232 318 l st M = am_ial xs st 319 l M := rfl
theorem xi_232_319 : am_do xs 232 319 l st M = am_i1 st fun x r => am_nx 320 l (.long x.toInt64 :: r) M := rfl
theorem xi_232_320 : am_do xs 232 320 l st M = am_nx 323 l (.long 4294967295 :: st) M := rfl
theorem xi_232_323 : am_do xs 232 323 l st M = am_j2 st fun x y r => am_nx 324 l (.long (x &&& y) :: r) M := rfl
theorem xi_232_324 : am_do xs 232 324 l st M = am_j2 st fun x y r => am_nx 325 l (.long (x ||| y) :: r) M := rfl
theorem xi_232_325 : am_do xs 232 325 l st M = am_lda (am_lg l 0) 326 l st M := rfl
theorem xi_232_326 : am_do xs 232 326 l st M = am_ldi (am_lg l 5) 328 l st M := rfl
theorem xi_232_328 : am_do xs 232 328 l st M = am_nx 329 l (.int 3 :: st) M := rfl
theorem xi_232_329 : am_do xs 232 329 l st M = am_i2 st fun x y r => am_nx 330 l (.int (x + y) :: r) M := rfl
theorem xi_232_330 : am_do xs 232 330 l st M = am_ial xs st 331 l M := rfl
theorem xi_232_331 : am_do xs 232 331 l st M = am_inv 1 3 (.retAddr 8) st M := rfl
theorem xt_232_331 : am_to 232 331 = 109 := rfl
theorem xi_232_334 : am_do xs 232 334 l st M = am_lda (am_lg l 2) 335 l st M := rfl
theorem xi_232_335 : am_do xs 232 335 l st M = am_inv 1 1 (.retAddr 8) st M := rfl
theorem xt_232_335 : am_to 232 335 = 104 := rfl
theorem xi_232_338 : am_do xs 232 338 l st M = am_ldi (am_lg l 6) 340 l st M := rfl
theorem xi_232_340 : am_do xs 232 340 l st M = am_i2 st fun x y r => am_nx (if x = y then 345 else 343) l r M := rfl
theorem xi_232_343 : am_do xs 232 343 l st M = am_nx 344 l (.int 0 :: st) M := rfl
theorem xi_232_344 : am_do xs 232 344 l st M = am_rti st 2 := rfl
theorem xi_232_345 : am_do xs 232 345 l st M = am_nx 3089 l st M := rfl
theorem xi_232_348 : am_do xs 232 348 l st M = am_lda (am_lg l 1) 349 l st M := rfl
theorem xi_232_349 : am_do xs 232 349 l st M = am_lda (am_lg l 0) 350 l st M := rfl
theorem xi_232_350 : am_do xs 232 350 l st M = am_ldi (am_lg l 5) 352 l st M := rfl
theorem xi_232_352 : am_do xs 232 352 l st M = am_nx 353 l (.int 1 :: st) M := rfl
theorem xi_232_353 : am_do xs 232 353 l st M = am_i2 st fun x y r => am_nx 354 l (.int (x + y) :: r) M := rfl
theorem xi_232_354 : am_do xs 232 354 l st M = am_ial xs st 355 l M := rfl
theorem xi_232_355 : am_do xs 232 355 l st M = am_lda (am_lg l 0) 356 l st M := rfl
theorem xi_232_356 : am_do xs 232 356 l st M = am_ldi (am_lg l 5) 358 l st M := rfl
theorem xi_232_358 : am_do xs 232 358 l st M = am_nx 359 l (.int 2 :: st) M := rfl
theorem xi_232_359 : am_do xs 232 359 l st M = am_i2 st fun x y r => am_nx 360 l (.int (x + y) :: r) M := rfl
theorem xi_232_360 : am_do xs 232 360 l st M = am_ial xs st 361 l M := rfl
theorem xi_232_361 : am_do xs 232 361 l st M = am_lda (am_lg l 3) 362 l st M := rfl
theorem xi_232_362 : am_do xs 232 362 l st M = am_inv 0 4 (.retAddr 100) st M := rfl
theorem xt_232_362 : am_to 232 362 = 190 := rfl
theorem xi_232_365 : am_do xs 232 365 l st M = am_i1 st fun x r => am_nx 367 (am_s1 l 6 (.int x)) r M := rfl
theorem xi_232_367 : am_do xs 232 367 l st M = am_lda (am_lg l 2) 368 l st M := rfl
theorem xi_232_368 : am_do xs 232 368 l st M = am_lda (am_lg l 0) 369 l st M := rfl
theorem xi_232_369 : am_do xs 232 369 l st M = am_ldi (am_lg l 5) 371 l st M := rfl
theorem xi_232_371 : am_do xs 232 371 l st M = am_nx 372 l (.int 1 :: st) M := rfl
theorem xi_232_372 : am_do xs 232 372 l st M = am_i2 st fun x y r => am_nx 373 l (.int (x + y) :: r) M := rfl
theorem xi_232_373 : am_do xs 232 373 l st M = am_ial xs st 374 l M := rfl
theorem xi_232_374 : am_do xs 232 374 l st M = am_lda (am_lg l 0) 375 l st M := rfl
theorem xi_232_375 : am_do xs 232 375 l st M = am_ldi (am_lg l 5) 377 l st M := rfl
theorem xi_232_377 : am_do xs 232 377 l st M = am_nx 378 l (.int 2 :: st) M := rfl
theorem xi_232_378 : am_do xs 232 378 l st M = am_i2 st fun x y r => am_nx 379 l (.int (x + y) :: r) M := rfl
theorem xi_232_379 : am_do xs 232 379 l st M = am_ial xs st 380 l M := rfl
theorem xi_232_380 : am_do xs 232 380 l st M = am_inv 1 3 (.retAddr 8) st M := rfl
theorem xt_232_380 : am_to 232 380 = 110 := rfl
theorem xi_232_383 : am_do xs 232 383 l st M = am_i1 st fun x r => am_nx 385 (am_s1 l 7 (.int x)) r M := rfl
theorem xi_232_385 : am_do xs 232 385 l st M = am_lda (am_lg l 2) 386 l st M := rfl
theorem xi_232_386 : am_do xs 232 386 l st M = am_inv 1 1 (.retAddr 8) st M := rfl
theorem xt_232_386 : am_to 232 386 = 104 := rfl
theorem xi_232_389 : am_do xs 232 389 l st M = am_ldi (am_lg l 6) 391 l st M := rfl
theorem xi_232_391 : am_do xs 232 391 l st M = am_i2 st fun x y r => am_nx (if x = y then 396 else 394) l r M := rfl
theorem xi_232_394 : am_do xs 232 394 l st M = am_nx 395 l (.int 0 :: st) M := rfl
theorem xi_232_395 : am_do xs 232 395 l st M = am_rti st 2 := rfl
theorem xi_232_396 : am_do xs 232 396 l st M = am_ldi (am_lg l 6) 398 l st M := rfl
theorem xi_232_398 : am_do xs 232 398 l st M = am_i1 st fun x r => am_nx (if ¬ x = 0 then 413 else 401) l r M := rfl
theorem xi_232_401 : am_do xs 232 401 l st M = am_lda (am_lg l 3) 402 l st M := rfl
theorem xi_232_402 : am_do xs 232 402 l st M = am_nx 403 l (.int 0 :: st) M := rfl
theorem xi_232_403 : am_do xs 232 403 l st M = am_ia st fun i o r => (am_aj (am_f M o) i).bind fun x => am_nx 404 l (.long x :: r) M := rfl
theorem xi_232_404 : am_do xs 232 404 l st M = am_ldi (am_lg l 7) 406 l st M := rfl
theorem xi_232_406 : am_do xs 232 406 l st M = am_i1 st fun x r => am_nx 407 l (.long x.toInt64 :: r) M := rfl
theorem xi_232_407 : am_do xs 232 407 l st M = am_j2 st fun x y r => am_nx 408 l (.int (lg_cmp x y) :: r) M := rfl
theorem xi_232_408 : am_do xs 232 408 l st M = am_i1 st fun x r => am_nx (if x = 0 then 413 else 411) l r M := rfl
theorem xi_232_411 : am_do xs 232 411 l st M = am_nx 412 l (.int 0 :: st) M := rfl
theorem xi_232_412 : am_do xs 232 412 l st M = am_rti st 2 := rfl
theorem xi_232_413 : am_do xs 232 413 l st M = am_nx 3089 l st M := rfl
theorem xi_232_416 : am_do xs 232 416 l st M = am_lda (am_lg l 1) 417 l st M := rfl
theorem xi_232_417 : am_do xs 232 417 l st M = am_inv 1 1 (.retAddr 7) st M := rfl
theorem xt_232_417 : am_to 232 417 = 30 := rfl
theorem xi_232_420 : am_do xs 232 420 l st M = am_lda (am_lg l 2) 421 l st M := rfl
theorem xi_232_421 : am_do xs 232 421 l st M = am_inv 1 1 (.retAddr 8) st M := rfl
theorem xt_232_421 : am_to 232 421 = 111 := rfl
theorem xi_232_424 : am_do xs 232 424 l st M = am_i2 st fun x y r => am_nx (if x = y then 3089 else 427) l r M := rfl
theorem xi_232_427 : am_do xs 232 427 l st M = am_nx 428 l (.int 0 :: st) M := rfl
theorem xi_232_428 : am_do xs 232 428 l st M = am_rti st 2 := rfl
theorem xi_232_429 : am_do xs 232 429 l st M = am_lda (am_lg l 1) 430 l st M := rfl
theorem xi_232_430 : am_do xs 232 430 l st M = am_lda (am_lg l 0) 431 l st M := rfl
theorem xi_232_431 : am_do xs 232 431 l st M = am_ldi (am_lg l 5) 433 l st M := rfl
theorem xi_232_433 : am_do xs 232 433 l st M = am_nx 434 l (.int 1 :: st) M := rfl
theorem xi_232_434 : am_do xs 232 434 l st M = am_i2 st fun x y r => am_nx 435 l (.int (x + y) :: r) M := rfl
theorem xi_232_435 : am_do xs 232 435 l st M = am_ial xs st 436 l M := rfl
theorem xi_232_436 : am_do xs 232 436 l st M = am_lda (am_lg l 3) 437 l st M := rfl
theorem xi_232_437 : am_do xs 232 437 l st M = am_inv 0 3 (.retAddr 100) st M := rfl
theorem xt_232_437 : am_to 232 437 = 191 := rfl
theorem xi_232_440 : am_do xs 232 440 l st M = am_i1 st fun x r => am_nx 442 (am_s1 l 6 (.int x)) r M := rfl
theorem xi_232_442 : am_do xs 232 442 l st M = am_lda (am_lg l 2) 443 l st M := rfl
theorem xi_232_443 : am_do xs 232 443 l st M = am_lda (am_lg l 0) 444 l st M := rfl
theorem xi_232_444 : am_do xs 232 444 l st M = am_ldi (am_lg l 5) 446 l st M := rfl
theorem xi_232_446 : am_do xs 232 446 l st M = am_nx 447 l (.int 1 :: st) M := rfl
theorem xi_232_447 : am_do xs 232 447 l st M = am_i2 st fun x y r => am_nx 448 l (.int (x + y) :: r) M := rfl
theorem xi_232_448 : am_do xs 232 448 l st M = am_ial xs st 449 l M := rfl
theorem xi_232_449 : am_do xs 232 449 l st M = am_inv 1 2 (.retAddr 8) st M := rfl
theorem xt_232_449 : am_to 232 449 = 115 := rfl
theorem xi_232_452 : am_do xs 232 452 l st M = am_i1 st fun x r => am_nx 454 (am_s1 l 7 (.int x)) r M := rfl
theorem xi_232_454 : am_do xs 232 454 l st M = am_lda (am_lg l 2) 455 l st M := rfl
theorem xi_232_455 : am_do xs 232 455 l st M = am_inv 1 1 (.retAddr 8) st M := rfl
theorem xt_232_455 : am_to 232 455 = 104 := rfl
theorem xi_232_458 : am_do xs 232 458 l st M = am_ldi (am_lg l 6) 460 l st M := rfl
theorem xi_232_460 : am_do xs 232 460 l st M = am_i2 st fun x y r => am_nx (if x = y then 465 else 463) l r M := rfl
theorem xi_232_463 : am_do xs 232 463 l st M = am_nx 464 l (.int 0 :: st) M := rfl
theorem xi_232_464 : am_do xs 232 464 l st M = am_rti st 2 := rfl
theorem xi_232_465 : am_do xs 232 465 l st M = am_ldi (am_lg l 6) 467 l st M := rfl
theorem xi_232_467 : am_do xs 232 467 l st M = am_i1 st fun x r => am_nx (if ¬ x = 0 then 482 else 470) l r M := rfl
theorem xi_232_470 : am_do xs 232 470 l st M = am_lda (am_lg l 3) 471 l st M := rfl
theorem xi_232_471 : am_do xs 232 471 l st M = am_nx 472 l (.int 0 :: st) M := rfl
theorem xi_232_472 : am_do xs 232 472 l st M = am_ia st fun i o r => (am_aj (am_f M o) i).bind fun x => am_nx 473 l (.long x :: r) M := rfl
theorem xi_232_473 : am_do xs 232 473 l st M = am_ldi (am_lg l 7) 475 l st M := rfl
theorem xi_232_475 : am_do xs 232 475 l st M = am_i1 st fun x r => am_nx 476 l (.long x.toInt64 :: r) M := rfl
theorem xi_232_476 : am_do xs 232 476 l st M = am_j2 st fun x y r => am_nx 477 l (.int (lg_cmp x y) :: r) M := rfl
theorem xi_232_477 : am_do xs 232 477 l st M = am_i1 st fun x r => am_nx (if x = 0 then 482 else 480) l r M := rfl
theorem xi_232_480 : am_do xs 232 480 l st M = am_nx 481 l (.int 0 :: st) M := rfl
theorem xi_232_481 : am_do xs 232 481 l st M = am_rti st 2 := rfl
theorem xi_232_482 : am_do xs 232 482 l st M = am_nx 3089 l st M := rfl
theorem xi_232_485 : am_do xs 232 485 l st M = am_lda (am_lg l 1) 486 l st M := rfl
theorem xi_232_486 : am_do xs 232 486 l st M = am_inv 1 1 (.retAddr 7) st M := rfl
theorem xt_232_486 : am_to 232 486 = 32 := rfl
theorem xi_232_489 : am_do xs 232 489 l st M = am_lda (am_lg l 2) 490 l st M := rfl
theorem xi_232_490 : am_do xs 232 490 l st M = am_inv 1 1 (.retAddr 8) st M := rfl
theorem xt_232_490 : am_to 232 490 = 116 := rfl
theorem xi_232_493 : am_do xs 232 493 l st M = am_i2 st fun x y r => am_nx (if x = y then 3089 else 496) l r M := rfl
theorem xi_232_496 : am_do xs 232 496 l st M = am_nx 497 l (.int 0 :: st) M := rfl
theorem xi_232_497 : am_do xs 232 497 l st M = am_rti st 2 := rfl
theorem xi_232_498 : am_do xs 232 498 l st M = am_lda (am_lg l 1) 499 l st M := rfl
theorem xi_232_499 : am_do xs 232 499 l st M = am_inv 1 1 (.retAddr 7) st M := rfl
theorem xt_232_499 : am_to 232 499 = 33 := rfl
theorem xi_232_502 : am_do xs 232 502 l st M = am_lda (am_lg l 2) 503 l st M := rfl
theorem xi_232_503 : am_do xs 232 503 l st M = am_inv 1 1 (.retAddr 8) st M := rfl
theorem xt_232_503 : am_to 232 503 = 117 := rfl
theorem xi_232_506 : am_do xs 232 506 l st M = am_j2 st fun x y r => am_nx 507 l (.int (lg_cmp x y) :: r) M := rfl
theorem xi_232_507 : am_do xs 232 507 l st M = am_i1 st fun x r => am_nx (if x = 0 then 3089 else 510) l r M := rfl
theorem xi_232_510 : am_do xs 232 510 l st M = am_nx 511 l (.int 0 :: st) M := rfl
theorem xi_232_511 : am_do xs 232 511 l st M = am_rti st 2 := rfl
theorem xi_232_512 : am_do xs 232 512 l st M = am_lda (am_lg l 1) 513 l st M := rfl
theorem xi_232_513 : am_do xs 232 513 l st M = am_inv 1 1 (.retAddr 7) st M := rfl
theorem xt_232_513 : am_to 232 513 = 34 := rfl
theorem xi_232_516 : am_do xs 232 516 l st M = am_lda (am_lg l 2) 517 l st M := rfl
theorem xi_232_517 : am_do xs 232 517 l st M = am_inv 1 1 (.retAddr 8) st M := rfl
theorem xt_232_517 : am_to 232 517 = 118 := rfl
theorem xi_232_520 : am_do xs 232 520 l st M = am_i2 st fun x y r => am_nx (if x = y then 3089 else 523) l r M := rfl
theorem xi_232_523 : am_do xs 232 523 l st M = am_nx 524 l (.int 0 :: st) M := rfl
theorem xi_232_524 : am_do xs 232 524 l st M = am_rti st 2 := rfl
theorem xi_232_525 : am_do xs 232 525 l st M = am_lda (am_lg l 1) 526 l st M := rfl
theorem xi_232_526 : am_do xs 232 526 l st M = am_lda (am_lg l 0) 527 l st M := rfl
theorem xi_232_527 : am_do xs 232 527 l st M = am_ldi (am_lg l 5) 529 l st M := rfl
theorem xi_232_529 : am_do xs 232 529 l st M = am_nx 530 l (.int 1 :: st) M := rfl
theorem xi_232_530 : am_do xs 232 530 l st M = am_i2 st fun x y r => am_nx 531 l (.int (x + y) :: r) M := rfl
theorem xi_232_531 : am_do xs 232 531 l st M = am_ial xs st 532 l M := rfl
theorem xi_232_532 : am_do xs 232 532 l st M = am_lda (am_lg l 3) 533 l st M := rfl
theorem xi_232_533 : am_do xs 232 533 l st M = am_inv 0 3 (.retAddr 100) st M := rfl
theorem xt_232_533 : am_to 232 533 = 192 := rfl
theorem xi_232_536 : am_do xs 232 536 l st M = am_i1 st fun x r => am_nx 538 (am_s1 l 6 (.int x)) r M := rfl
theorem xi_232_538 : am_do xs 232 538 l st M = am_lda (am_lg l 2) 539 l st M := rfl
theorem xi_232_539 : am_do xs 232 539 l st M = am_lda (am_lg l 0) 540 l st M := rfl
theorem xi_232_540 : am_do xs 232 540 l st M = am_ldi (am_lg l 5) 542 l st M := rfl
theorem xi_232_542 : am_do xs 232 542 l st M = am_nx 543 l (.int 1 :: st) M := rfl
theorem xi_232_543 : am_do xs 232 543 l st M = am_i2 st fun x y r => am_nx 544 l (.int (x + y) :: r) M := rfl
theorem xi_232_544 : am_do xs 232 544 l st M = am_ial xs st 545 l M := rfl
theorem xi_232_545 : am_do xs 232 545 l st M = am_inv 1 2 (.retAddr 8) st M := rfl
theorem xt_232_545 : am_to 232 545 = 119 := rfl
theorem xi_232_548 : am_do xs 232 548 l st M = am_j1 st fun x r => am_nx 550 (am_s2 l 7 (.long x)) r M := rfl
theorem xi_232_550 : am_do xs 232 550 l st M = am_lda (am_lg l 2) 551 l st M := rfl
theorem xi_232_551 : am_do xs 232 551 l st M = am_inv 1 1 (.retAddr 8) st M := rfl
theorem xt_232_551 : am_to 232 551 = 104 := rfl
theorem xi_232_554 : am_do xs 232 554 l st M = am_ldi (am_lg l 6) 556 l st M := rfl
theorem xi_232_556 : am_do xs 232 556 l st M = am_i2 st fun x y r => am_nx (if x = y then 561 else 559) l r M := rfl
theorem xi_232_559 : am_do xs 232 559 l st M = am_nx 560 l (.int 0 :: st) M := rfl
theorem xi_232_560 : am_do xs 232 560 l st M = am_rti st 2 := rfl
theorem xi_232_561 : am_do xs 232 561 l st M = am_ldi (am_lg l 6) 563 l st M := rfl
theorem xi_232_563 : am_do xs 232 563 l st M = am_i1 st fun x r => am_nx (if ¬ x = 0 then 577 else 566) l r M := rfl
theorem xi_232_566 : am_do xs 232 566 l st M = am_lda (am_lg l 3) 567 l st M := rfl
theorem xi_232_567 : am_do xs 232 567 l st M = am_nx 568 l (.int 0 :: st) M := rfl
theorem xi_232_568 : am_do xs 232 568 l st M = am_ia st fun i o r => (am_aj (am_f M o) i).bind fun x => am_nx 569 l (.long x :: r) M := rfl
theorem xi_232_569 : am_do xs 232 569 l st M = am_ldj (am_lg l 7) 571 l st M := rfl
theorem xi_232_571 : am_do xs 232 571 l st M = am_j2 st fun x y r => am_nx 572 l (.int (lg_cmp x y) :: r) M := rfl
theorem xi_232_572 : am_do xs 232 572 l st M = am_i1 st fun x r => am_nx (if x = 0 then 577 else 575) l r M := rfl
theorem xi_232_575 : am_do xs 232 575 l st M = am_nx 576 l (.int 0 :: st) M := rfl
theorem xi_232_576 : am_do xs 232 576 l st M = am_rti st 2 := rfl
theorem xi_232_577 : am_do xs 232 577 l st M = am_nx 3089 l st M := rfl
theorem xi_232_580 : am_do xs 232 580 l st M = am_lda (am_lg l 1) 581 l st M := rfl
theorem xi_232_581 : am_do xs 232 581 l st M = am_lda (am_lg l 0) 582 l st M := rfl
theorem xi_232_582 : am_do xs 232 582 l st M = am_ldi (am_lg l 5) 584 l st M := rfl
theorem xi_232_584 : am_do xs 232 584 l st M = am_nx 585 l (.int 1 :: st) M := rfl
theorem xi_232_585 : am_do xs 232 585 l st M = am_i2 st fun x y r => am_nx 586 l (.int (x + y) :: r) M := rfl
theorem xi_232_586 : am_do xs 232 586 l st M = am_ial xs st 587 l M := rfl
theorem xi_232_587 : am_do xs 232 587 l st M = am_lda (am_lg l 3) 588 l st M := rfl
theorem xi_232_588 : am_do xs 232 588 l st M = am_inv 0 3 (.retAddr 100) st M := rfl
theorem xt_232_588 : am_to 232 588 = 193 := rfl
theorem xi_232_591 : am_do xs 232 591 l st M = am_i1 st fun x r => am_nx 593 (am_s1 l 6 (.int x)) r M := rfl
theorem xi_232_593 : am_do xs 232 593 l st M = am_lda (am_lg l 2) 594 l st M := rfl
theorem xi_232_594 : am_do xs 232 594 l st M = am_lda (am_lg l 0) 595 l st M := rfl
theorem xi_232_595 : am_do xs 232 595 l st M = am_ldi (am_lg l 5) 597 l st M := rfl
theorem xi_232_597 : am_do xs 232 597 l st M = am_nx 598 l (.int 1 :: st) M := rfl
theorem xi_232_598 : am_do xs 232 598 l st M = am_i2 st fun x y r => am_nx 599 l (.int (x + y) :: r) M := rfl
theorem xi_232_599 : am_do xs 232 599 l st M = am_ial xs st 600 l M := rfl
theorem xi_232_600 : am_do xs 232 600 l st M = am_inv 1 2 (.retAddr 8) st M := rfl
theorem xt_232_600 : am_to 232 600 = 120 := rfl
theorem xi_232_603 : am_do xs 232 603 l st M = am_i1 st fun x r => am_nx 605 (am_s1 l 7 (.int x)) r M := rfl
theorem xi_232_605 : am_do xs 232 605 l st M = am_lda (am_lg l 2) 606 l st M := rfl
theorem xi_232_606 : am_do xs 232 606 l st M = am_inv 1 1 (.retAddr 8) st M := rfl
theorem xt_232_606 : am_to 232 606 = 104 := rfl
theorem xi_232_609 : am_do xs 232 609 l st M = am_ldi (am_lg l 6) 611 l st M := rfl
theorem xi_232_611 : am_do xs 232 611 l st M = am_i2 st fun x y r => am_nx (if x = y then 616 else 614) l r M := rfl
theorem xi_232_614 : am_do xs 232 614 l st M = am_nx 615 l (.int 0 :: st) M := rfl
theorem xi_232_615 : am_do xs 232 615 l st M = am_rti st 2 := rfl
theorem xi_232_616 : am_do xs 232 616 l st M = am_ldi (am_lg l 6) 618 l st M := rfl
theorem xi_232_618 : am_do xs 232 618 l st M = am_i1 st fun x r => am_nx (if ¬ x = 0 then 633 else 621) l r M := rfl
theorem xi_232_621 : am_do xs 232 621 l st M = am_lda (am_lg l 3) 622 l st M := rfl
theorem xi_232_622 : am_do xs 232 622 l st M = am_nx 623 l (.int 0 :: st) M := rfl
theorem xi_232_623 : am_do xs 232 623 l st M = am_ia st fun i o r => (am_aj (am_f M o) i).bind fun x => am_nx 624 l (.long x :: r) M := rfl
theorem xi_232_624 : am_do xs 232 624 l st M = am_ldi (am_lg l 7) 626 l st M := rfl
theorem xi_232_626 : am_do xs 232 626 l st M = am_i1 st fun x r => am_nx 627 l (.long x.toInt64 :: r) M := rfl
theorem xi_232_627 : am_do xs 232 627 l st M = am_j2 st fun x y r => am_nx 628 l (.int (lg_cmp x y) :: r) M := rfl
theorem xi_232_628 : am_do xs 232 628 l st M = am_i1 st fun x r => am_nx (if x = 0 then 633 else 631) l r M := rfl
theorem xi_232_631 : am_do xs 232 631 l st M = am_nx 632 l (.int 0 :: st) M := rfl
theorem xi_232_632 : am_do xs 232 632 l st M = am_rti st 2 := rfl
theorem xi_232_633 : am_do xs 232 633 l st M = am_nx 3089 l st M := rfl
theorem xi_232_636 : am_do xs 232 636 l st M = am_lda (am_lg l 1) 637 l st M := rfl
theorem xi_232_637 : am_do xs 232 637 l st M = am_lda (am_lg l 0) 638 l st M := rfl
theorem xi_232_638 : am_do xs 232 638 l st M = am_ldi (am_lg l 5) 640 l st M := rfl
theorem xi_232_640 : am_do xs 232 640 l st M = am_nx 641 l (.int 1 :: st) M := rfl
theorem xi_232_641 : am_do xs 232 641 l st M = am_i2 st fun x y r => am_nx 642 l (.int (x + y) :: r) M := rfl
theorem xi_232_642 : am_do xs 232 642 l st M = am_ial xs st 643 l M := rfl
theorem xi_232_643 : am_do xs 232 643 l st M = am_lda (am_lg l 0) 644 l st M := rfl
theorem xi_232_644 : am_do xs 232 644 l st M = am_ldi (am_lg l 5) 646 l st M := rfl
theorem xi_232_646 : am_do xs 232 646 l st M = am_nx 647 l (.int 2 :: st) M := rfl
theorem xi_232_647 : am_do xs 232 647 l st M = am_i2 st fun x y r => am_nx 648 l (.int (x + y) :: r) M := rfl
theorem xi_232_648 : am_do xs 232 648 l st M = am_ial xs st 649 l M := rfl
theorem xi_232_649 : am_do xs 232 649 l st M = am_i1 st fun x r => am_nx 650 l (.long x.toInt64 :: r) M := rfl
theorem xi_232_650 : am_do xs 232 650 l st M = am_nx 652 l (.int 32 :: st) M := rfl
theorem xi_232_652 : am_do xs 232 652 l st M = am_ij st fun x y r => am_nx 653 l (.long (x <<< (y.toInt64 &&& 63)) :: r) M := rfl
theorem xi_232_653 : am_do xs 232 653 l st M = am_lda (am_lg l 0) 654 l st M := rfl
theorem xi_232_654 : am_do xs 232 654 l st M = am_ldi (am_lg l 5) 656 l st M := rfl
theorem xi_232_656 : am_do xs 232 656 l st M = am_nx 657 l (.int 3 :: st) M := rfl
theorem xi_232_657 : am_do xs 232 657 l st M = am_i2 st fun x y r => am_nx 658 l (.int (x + y) :: r) M := rfl
theorem xi_232_658 : am_do xs 232 658 l st M = am_ial xs st 659 l M := rfl
theorem xi_232_659 : am_do xs 232 659 l st M = am_i1 st fun x r => am_nx 660 l (.long x.toInt64 :: r) M := rfl
theorem xi_232_660 : am_do xs 232 660 l st M = am_nx 663 l (.long 4294967295 :: st) M := rfl
theorem xi_232_663 : am_do xs 232 663 l st M = am_j2 st fun x y r => am_nx 664 l (.long (x &&& y) :: r) M := rfl
theorem xi_232_664 : am_do xs 232 664 l st M = am_j2 st fun x y r => am_nx 665 l (.long (x ||| y) :: r) M := rfl
theorem xi_232_665 : am_do xs 232 665 l st M = am_lda (am_lg l 3) 666 l st M := rfl
theorem xi_232_666 : am_do xs 232 666 l st M = am_inv 0 4 (.retAddr 100) st M := rfl
theorem xt_232_666 : am_to 232 666 = 194 := rfl
theorem xi_232_669 : am_do xs 232 669 l st M = am_i1 st fun x r => am_nx 671 (am_s1 l 6 (.int x)) r M := rfl
theorem xi_232_671 : am_do xs 232 671 l st M = am_lda (am_lg l 2) 672 l st M := rfl
theorem xi_232_672 : am_do xs 232 672 l st M = am_lda (am_lg l 0) 673 l st M := rfl
theorem xi_232_673 : am_do xs 232 673 l st M = am_ldi (am_lg l 5) 675 l st M := rfl
theorem xi_232_675 : am_do xs 232 675 l st M = am_nx 676 l (.int 1 :: st) M := rfl
theorem xi_232_676 : am_do xs 232 676 l st M = am_i2 st fun x y r => am_nx 677 l (.int (x + y) :: r) M := rfl
theorem xi_232_677 : am_do xs 232 677 l st M = am_ial xs st 678 l M := rfl
theorem xi_232_678 : am_do xs 232 678 l st M = am_lda (am_lg l 0) 679 l st M := rfl
theorem xi_232_679 : am_do xs 232 679 l st M = am_ldi (am_lg l 5) 681 l st M := rfl
theorem xi_232_681 : am_do xs 232 681 l st M = am_nx 682 l (.int 2 :: st) M := rfl
theorem xi_232_682 : am_do xs 232 682 l st M = am_i2 st fun x y r => am_nx 683 l (.int (x + y) :: r) M := rfl
theorem xi_232_683 : am_do xs 232 683 l st M = am_ial xs st 684 l M := rfl
theorem xi_232_684 : am_do xs 232 684 l st M = am_i1 st fun x r => am_nx 685 l (.long x.toInt64 :: r) M := rfl
theorem xi_232_685 : am_do xs 232 685 l st M = am_nx 687 l (.int 32 :: st) M := rfl
theorem xi_232_687 : am_do xs 232 687 l st M = am_ij st fun x y r => am_nx 688 l (.long (x <<< (y.toInt64 &&& 63)) :: r) M := rfl
theorem xi_232_688 : am_do xs 232 688 l st M = am_lda (am_lg l 0) 689 l st M := rfl
theorem xi_232_689 : am_do xs 232 689 l st M = am_ldi (am_lg l 5) 691 l st M := rfl
theorem xi_232_691 : am_do xs 232 691 l st M = am_nx 692 l (.int 3 :: st) M := rfl
theorem xi_232_692 : am_do xs 232 692 l st M = am_i2 st fun x y r => am_nx 693 l (.int (x + y) :: r) M := rfl
theorem xi_232_693 : am_do xs 232 693 l st M = am_ial xs st 694 l M := rfl
theorem xi_232_694 : am_do xs 232 694 l st M = am_i1 st fun x r => am_nx 695 l (.long x.toInt64 :: r) M := rfl
theorem xi_232_695 : am_do xs 232 695 l st M = am_nx 698 l (.long 4294967295 :: st) M := rfl
theorem xi_232_698 : am_do xs 232 698 l st M = am_j2 st fun x y r => am_nx 699 l (.long (x &&& y) :: r) M := rfl
theorem xi_232_699 : am_do xs 232 699 l st M = am_j2 st fun x y r => am_nx 700 l (.long (x ||| y) :: r) M := rfl
theorem xi_232_700 : am_do xs 232 700 l st M = am_inv 1 3 (.retAddr 8) st M := rfl
theorem xt_232_700 : am_to 232 700 = 122 := rfl
theorem xi_232_703 : am_do xs 232 703 l st M = am_j1 st fun x r => am_nx 705 (am_s2 l 7 (.long x)) r M := rfl
theorem xi_232_705 : am_do xs 232 705 l st M = am_lda (am_lg l 2) 706 l st M := rfl
theorem xi_232_706 : am_do xs 232 706 l st M = am_inv 1 1 (.retAddr 8) st M := rfl
theorem xt_232_706 : am_to 232 706 = 104 := rfl
theorem xi_232_709 : am_do xs 232 709 l st M = am_ldi (am_lg l 6) 711 l st M := rfl
theorem xi_232_711 : am_do xs 232 711 l st M = am_i2 st fun x y r => am_nx (if x = y then 716 else 714) l r M := rfl
theorem xi_232_714 : am_do xs 232 714 l st M = am_nx 715 l (.int 0 :: st) M := rfl
theorem xi_232_715 : am_do xs 232 715 l st M = am_rti st 2 := rfl
theorem xi_232_716 : am_do xs 232 716 l st M = am_ldi (am_lg l 6) 718 l st M := rfl
theorem xi_232_718 : am_do xs 232 718 l st M = am_i1 st fun x r => am_nx (if ¬ x = 0 then 732 else 721) l r M := rfl
theorem xi_232_721 : am_do xs 232 721 l st M = am_lda (am_lg l 3) 722 l st M := rfl
theorem xi_232_722 : am_do xs 232 722 l st M = am_nx 723 l (.int 0 :: st) M := rfl
theorem xi_232_723 : am_do xs 232 723 l st M = am_ia st fun i o r => (am_aj (am_f M o) i).bind fun x => am_nx 724 l (.long x :: r) M := rfl
theorem xi_232_724 : am_do xs 232 724 l st M = am_ldj (am_lg l 7) 726 l st M := rfl
theorem xi_232_726 : am_do xs 232 726 l st M = am_j2 st fun x y r => am_nx 727 l (.int (lg_cmp x y) :: r) M := rfl
theorem xi_232_727 : am_do xs 232 727 l st M = am_i1 st fun x r => am_nx (if x = 0 then 732 else 730) l r M := rfl
theorem xi_232_730 : am_do xs 232 730 l st M = am_nx 731 l (.int 0 :: st) M := rfl
theorem xi_232_731 : am_do xs 232 731 l st M = am_rti st 2 := rfl
theorem xi_232_732 : am_do xs 232 732 l st M = am_nx 3089 l st M := rfl
theorem xi_232_735 : am_do xs 232 735 l st M = am_lda (am_lg l 1) 736 l st M := rfl
theorem xi_232_736 : am_do xs 232 736 l st M = am_lda (am_lg l 0) 737 l st M := rfl
theorem xi_232_737 : am_do xs 232 737 l st M = am_ldi (am_lg l 5) 739 l st M := rfl
theorem xi_232_739 : am_do xs 232 739 l st M = am_nx 740 l (.int 1 :: st) M := rfl
theorem xi_232_740 : am_do xs 232 740 l st M = am_i2 st fun x y r => am_nx 741 l (.int (x + y) :: r) M := rfl
theorem xi_232_741 : am_do xs 232 741 l st M = am_ial xs st 742 l M := rfl
theorem xi_232_742 : am_do xs 232 742 l st M = am_lda (am_lg l 3) 743 l st M := rfl
theorem xi_232_743 : am_do xs 232 743 l st M = am_inv 0 3 (.retAddr 100) st M := rfl
theorem xt_232_743 : am_to 232 743 = 195 := rfl
theorem xi_232_746 : am_do xs 232 746 l st M = am_i1 st fun x r => am_nx 748 (am_s1 l 6 (.int x)) r M := rfl
theorem xi_232_748 : am_do xs 232 748 l st M = am_lda (am_lg l 2) 749 l st M := rfl
theorem xi_232_749 : am_do xs 232 749 l st M = am_lda (am_lg l 0) 750 l st M := rfl
theorem xi_232_750 : am_do xs 232 750 l st M = am_ldi (am_lg l 5) 752 l st M := rfl
theorem xi_232_752 : am_do xs 232 752 l st M = am_nx 753 l (.int 1 :: st) M := rfl
theorem xi_232_753 : am_do xs 232 753 l st M = am_i2 st fun x y r => am_nx 754 l (.int (x + y) :: r) M := rfl
theorem xi_232_754 : am_do xs 232 754 l st M = am_ial xs st 755 l M := rfl
theorem xi_232_755 : am_do xs 232 755 l st M = am_inv 1 2 (.retAddr 8) st M := rfl
theorem xt_232_755 : am_to 232 755 = 123 := rfl
theorem xi_232_758 : am_do xs 232 758 l st M = am_i1 st fun x r => am_nx 760 (am_s1 l 7 (.int x)) r M := rfl
theorem xi_232_760 : am_do xs 232 760 l st M = am_lda (am_lg l 2) 761 l st M := rfl
theorem xi_232_761 : am_do xs 232 761 l st M = am_inv 1 1 (.retAddr 8) st M := rfl
theorem xt_232_761 : am_to 232 761 = 104 := rfl
theorem xi_232_764 : am_do xs 232 764 l st M = am_ldi (am_lg l 6) 766 l st M := rfl
theorem xi_232_766 : am_do xs 232 766 l st M = am_i2 st fun x y r => am_nx (if x = y then 771 else 769) l r M := rfl
theorem xi_232_769 : am_do xs 232 769 l st M = am_nx 770 l (.int 0 :: st) M := rfl
theorem xi_232_770 : am_do xs 232 770 l st M = am_rti st 2 := rfl
theorem xi_232_771 : am_do xs 232 771 l st M = am_ldi (am_lg l 6) 773 l st M := rfl
theorem xi_232_773 : am_do xs 232 773 l st M = am_i1 st fun x r => am_nx (if ¬ x = 0 then 788 else 776) l r M := rfl
theorem xi_232_776 : am_do xs 232 776 l st M = am_lda (am_lg l 3) 777 l st M := rfl
theorem xi_232_777 : am_do xs 232 777 l st M = am_nx 778 l (.int 0 :: st) M := rfl
theorem xi_232_778 : am_do xs 232 778 l st M = am_ia st fun i o r => (am_aj (am_f M o) i).bind fun x => am_nx 779 l (.long x :: r) M := rfl
theorem xi_232_779 : am_do xs 232 779 l st M = am_ldi (am_lg l 7) 781 l st M := rfl
theorem xi_232_781 : am_do xs 232 781 l st M = am_i1 st fun x r => am_nx 782 l (.long x.toInt64 :: r) M := rfl
theorem xi_232_782 : am_do xs 232 782 l st M = am_j2 st fun x y r => am_nx 783 l (.int (lg_cmp x y) :: r) M := rfl
theorem xi_232_783 : am_do xs 232 783 l st M = am_i1 st fun x r => am_nx (if x = 0 then 788 else 786) l r M := rfl
theorem xi_232_786 : am_do xs 232 786 l st M = am_nx 787 l (.int 0 :: st) M := rfl
theorem xi_232_787 : am_do xs 232 787 l st M = am_rti st 2 := rfl
theorem xi_232_788 : am_do xs 232 788 l st M = am_nx 3089 l st M := rfl
theorem xi_232_791 : am_do xs 232 791 l st M = am_lda (am_lg l 1) 792 l st M := rfl
theorem xi_232_792 : am_do xs 232 792 l st M = am_lda (am_lg l 0) 793 l st M := rfl
theorem xi_232_793 : am_do xs 232 793 l st M = am_ldi (am_lg l 5) 795 l st M := rfl
theorem xi_232_795 : am_do xs 232 795 l st M = am_nx 796 l (.int 1 :: st) M := rfl
theorem xi_232_796 : am_do xs 232 796 l st M = am_i2 st fun x y r => am_nx 797 l (.int (x + y) :: r) M := rfl
theorem xi_232_797 : am_do xs 232 797 l st M = am_ial xs st 798 l M := rfl
theorem xi_232_798 : am_do xs 232 798 l st M = am_i1 st fun x r => am_nx 799 l (.long x.toInt64 :: r) M := rfl
theorem xi_232_799 : am_do xs 232 799 l st M = am_nx 801 l (.int 32 :: st) M := rfl
theorem xi_232_801 : am_do xs 232 801 l st M = am_ij st fun x y r => am_nx 802 l (.long (x <<< (y.toInt64 &&& 63)) :: r) M := rfl
theorem xi_232_802 : am_do xs 232 802 l st M = am_lda (am_lg l 0) 803 l st M := rfl
theorem xi_232_803 : am_do xs 232 803 l st M = am_ldi (am_lg l 5) 805 l st M := rfl
theorem xi_232_805 : am_do xs 232 805 l st M = am_nx 806 l (.int 2 :: st) M := rfl
theorem xi_232_806 : am_do xs 232 806 l st M = am_i2 st fun x y r => am_nx 807 l (.int (x + y) :: r) M := rfl
theorem xi_232_807 : am_do xs 232 807 l st M = am_ial xs st 808 l M := rfl
theorem xi_232_808 : am_do xs 232 808 l st M = am_i1 st fun x r => am_nx 809 l (.long x.toInt64 :: r) M := rfl
theorem xi_232_809 : am_do xs 232 809 l st M = am_nx 812 l (.long 4294967295 :: st) M := rfl
theorem xi_232_812 : am_do xs 232 812 l st M = am_j2 st fun x y r => am_nx 813 l (.long (x &&& y) :: r) M := rfl
theorem xi_232_813 : am_do xs 232 813 l st M = am_j2 st fun x y r => am_nx 814 l (.long (x ||| y) :: r) M := rfl
theorem xi_232_814 : am_do xs 232 814 l st M = am_lda (am_lg l 3) 815 l st M := rfl
theorem xi_232_815 : am_do xs 232 815 l st M = am_inv 0 3 (.retAddr 100) st M := rfl
theorem xt_232_815 : am_to 232 815 = 196 := rfl
theorem xi_232_818 : am_do xs 232 818 l st M = am_i1 st fun x r => am_nx 820 (am_s1 l 6 (.int x)) r M := rfl
theorem xi_232_820 : am_do xs 232 820 l st M = am_lda (am_lg l 2) 821 l st M := rfl
theorem xi_232_821 : am_do xs 232 821 l st M = am_lda (am_lg l 0) 822 l st M := rfl
theorem xi_232_822 : am_do xs 232 822 l st M = am_ldi (am_lg l 5) 824 l st M := rfl
theorem xi_232_824 : am_do xs 232 824 l st M = am_nx 825 l (.int 1 :: st) M := rfl
theorem xi_232_825 : am_do xs 232 825 l st M = am_i2 st fun x y r => am_nx 826 l (.int (x + y) :: r) M := rfl
theorem xi_232_826 : am_do xs 232 826 l st M = am_ial xs st 827 l M := rfl
theorem xi_232_827 : am_do xs 232 827 l st M = am_i1 st fun x r => am_nx 828 l (.long x.toInt64 :: r) M := rfl
theorem xi_232_828 : am_do xs 232 828 l st M = am_nx 830 l (.int 32 :: st) M := rfl
theorem xi_232_830 : am_do xs 232 830 l st M = am_ij st fun x y r => am_nx 831 l (.long (x <<< (y.toInt64 &&& 63)) :: r) M := rfl
theorem xi_232_831 : am_do xs 232 831 l st M = am_lda (am_lg l 0) 832 l st M := rfl
theorem xi_232_832 : am_do xs 232 832 l st M = am_ldi (am_lg l 5) 834 l st M := rfl
theorem xi_232_834 : am_do xs 232 834 l st M = am_nx 835 l (.int 2 :: st) M := rfl
theorem xi_232_835 : am_do xs 232 835 l st M = am_i2 st fun x y r => am_nx 836 l (.int (x + y) :: r) M := rfl
theorem xi_232_836 : am_do xs 232 836 l st M = am_ial xs st 837 l M := rfl
theorem xi_232_837 : am_do xs 232 837 l st M = am_i1 st fun x r => am_nx 838 l (.long x.toInt64 :: r) M := rfl
theorem xi_232_838 : am_do xs 232 838 l st M = am_nx 841 l (.long 4294967295 :: st) M := rfl
theorem xi_232_841 : am_do xs 232 841 l st M = am_j2 st fun x y r => am_nx 842 l (.long (x &&& y) :: r) M := rfl
theorem xi_232_842 : am_do xs 232 842 l st M = am_j2 st fun x y r => am_nx 843 l (.long (x ||| y) :: r) M := rfl
theorem xi_232_843 : am_do xs 232 843 l st M = am_inv 1 2 (.retAddr 8) st M := rfl
theorem xt_232_843 : am_to 232 843 = 124 := rfl
theorem xi_232_846 : am_do xs 232 846 l st M = am_i1 st fun x r => am_nx 848 (am_s1 l 7 (.int x)) r M := rfl
theorem xi_232_848 : am_do xs 232 848 l st M = am_lda (am_lg l 2) 849 l st M := rfl
theorem xi_232_849 : am_do xs 232 849 l st M = am_inv 1 1 (.retAddr 8) st M := rfl
theorem xt_232_849 : am_to 232 849 = 104 := rfl
theorem xi_232_852 : am_do xs 232 852 l st M = am_ldi (am_lg l 6) 854 l st M := rfl
theorem xi_232_854 : am_do xs 232 854 l st M = am_i2 st fun x y r => am_nx (if x = y then 859 else 857) l r M := rfl
theorem xi_232_857 : am_do xs 232 857 l st M = am_nx 858 l (.int 0 :: st) M := rfl
theorem xi_232_858 : am_do xs 232 858 l st M = am_rti st 2 := rfl
theorem xi_232_859 : am_do xs 232 859 l st M = am_ldi (am_lg l 6) 861 l st M := rfl
theorem xi_232_861 : am_do xs 232 861 l st M = am_i1 st fun x r => am_nx (if ¬ x = 0 then 876 else 864) l r M := rfl
theorem xi_232_864 : am_do xs 232 864 l st M = am_lda (am_lg l 3) 865 l st M := rfl
theorem xi_232_865 : am_do xs 232 865 l st M = am_nx 866 l (.int 0 :: st) M := rfl
theorem xi_232_866 : am_do xs 232 866 l st M = am_ia st fun i o r => (am_aj (am_f M o) i).bind fun x => am_nx 867 l (.long x :: r) M := rfl
theorem xi_232_867 : am_do xs 232 867 l st M = am_ldi (am_lg l 7) 869 l st M := rfl
theorem xi_232_869 : am_do xs 232 869 l st M = am_i1 st fun x r => am_nx 870 l (.long x.toInt64 :: r) M := rfl
theorem xi_232_870 : am_do xs 232 870 l st M = am_j2 st fun x y r => am_nx 871 l (.int (lg_cmp x y) :: r) M := rfl
theorem xi_232_871 : am_do xs 232 871 l st M = am_i1 st fun x r => am_nx (if x = 0 then 876 else 874) l r M := rfl
theorem xi_232_874 : am_do xs 232 874 l st M = am_nx 875 l (.int 0 :: st) M := rfl
theorem xi_232_875 : am_do xs 232 875 l st M = am_rti st 2 := rfl
theorem xi_232_876 : am_do xs 232 876 l st M = am_nx 3089 l st M := rfl
theorem xi_232_879 : am_do xs 232 879 l st M = am_lda (am_lg l 1) 880 l st M := rfl
theorem xi_232_880 : am_do xs 232 880 l st M = am_lda (am_lg l 3) 881 l st M := rfl
theorem xi_232_881 : am_do xs 232 881 l st M = am_inv 0 2 (.retAddr 100) st M := rfl
theorem xt_232_881 : am_to 232 881 = 197 := rfl
theorem xi_232_884 : am_do xs 232 884 l st M = am_i1 st fun x r => am_nx 886 (am_s1 l 6 (.int x)) r M := rfl
theorem xi_232_886 : am_do xs 232 886 l st M = am_lda (am_lg l 2) 887 l st M := rfl
theorem xi_232_887 : am_do xs 232 887 l st M = am_inv 1 1 (.retAddr 8) st M := rfl
theorem xt_232_887 : am_to 232 887 = 125 := rfl
theorem xi_232_890 : am_do xs 232 890 l st M = am_i1 st fun x r => am_nx 892 (am_s1 l 7 (.int x)) r M := rfl
theorem xi_232_892 : am_do xs 232 892 l st M = am_lda (am_lg l 2) 893 l st M := rfl
theorem xi_232_893 : am_do xs 232 893 l st M = am_inv 1 1 (.retAddr 8) st M := rfl
theorem xt_232_893 : am_to 232 893 = 104 := rfl
theorem xi_232_896 : am_do xs 232 896 l st M = am_ldi (am_lg l 6) 898 l st M := rfl
theorem xi_232_898 : am_do xs 232 898 l st M = am_i2 st fun x y r => am_nx (if x = y then 903 else 901) l r M := rfl
theorem xi_232_901 : am_do xs 232 901 l st M = am_nx 902 l (.int 0 :: st) M := rfl
theorem xi_232_902 : am_do xs 232 902 l st M = am_rti st 2 := rfl
theorem xi_232_903 : am_do xs 232 903 l st M = am_ldi (am_lg l 6) 905 l st M := rfl
theorem xi_232_905 : am_do xs 232 905 l st M = am_i1 st fun x r => am_nx (if ¬ x = 0 then 920 else 908) l r M := rfl
theorem xi_232_908 : am_do xs 232 908 l st M = am_lda (am_lg l 3) 909 l st M := rfl
theorem xi_232_909 : am_do xs 232 909 l st M = am_nx 910 l (.int 0 :: st) M := rfl
theorem xi_232_910 : am_do xs 232 910 l st M = am_ia st fun i o r => (am_aj (am_f M o) i).bind fun x => am_nx 911 l (.long x :: r) M := rfl
theorem xi_232_911 : am_do xs 232 911 l st M = am_ldi (am_lg l 7) 913 l st M := rfl
theorem xi_232_913 : am_do xs 232 913 l st M = am_i1 st fun x r => am_nx 914 l (.long x.toInt64 :: r) M := rfl
theorem xi_232_914 : am_do xs 232 914 l st M = am_j2 st fun x y r => am_nx 915 l (.int (lg_cmp x y) :: r) M := rfl
theorem xi_232_915 : am_do xs 232 915 l st M = am_i1 st fun x r => am_nx (if x = 0 then 920 else 918) l r M := rfl
theorem xi_232_918 : am_do xs 232 918 l st M = am_nx 919 l (.int 0 :: st) M := rfl
theorem xi_232_919 : am_do xs 232 919 l st M = am_rti st 2 := rfl
theorem xi_232_920 : am_do xs 232 920 l st M = am_nx 3089 l st M := rfl
theorem xi_232_923 : am_do xs 232 923 l st M = am_lda (am_lg l 1) 924 l st M := rfl
theorem xi_232_924 : am_do xs 232 924 l st M = am_inv 1 1 (.retAddr 7) st M := rfl
theorem xt_232_924 : am_to 232 924 = 41 := rfl
theorem xi_232_927 : am_do xs 232 927 l st M = am_lda (am_lg l 2) 928 l st M := rfl
theorem xi_232_928 : am_do xs 232 928 l st M = am_inv 1 1 (.retAddr 8) st M := rfl
theorem xt_232_928 : am_to 232 928 = 126 := rfl
theorem xi_232_931 : am_do xs 232 931 l st M = am_i2 st fun x y r => am_nx (if x = y then 3089 else 934) l r M := rfl
theorem xi_232_934 : am_do xs 232 934 l st M = am_nx 935 l (.int 0 :: st) M := rfl
theorem xi_232_935 : am_do xs 232 935 l st M = am_rti st 2 := rfl
theorem xi_232_936 : am_do xs 232 936 l st M = am_lda (am_lg l 1) 937 l st M := rfl
theorem xi_232_937 : am_do xs 232 937 l st M = am_lda (am_lg l 0) 938 l st M := rfl
theorem xi_232_938 : am_do xs 232 938 l st M = am_ldi (am_lg l 5) 940 l st M := rfl
theorem xi_232_940 : am_do xs 232 940 l st M = am_nx 941 l (.int 1 :: st) M := rfl
theorem xi_232_941 : am_do xs 232 941 l st M = am_i2 st fun x y r => am_nx 942 l (.int (x + y) :: r) M := rfl
theorem xi_232_942 : am_do xs 232 942 l st M = am_ial xs st 943 l M := rfl
theorem xi_232_943 : am_do xs 232 943 l st M = am_lda (am_lg l 3) 944 l st M := rfl
theorem xi_232_944 : am_do xs 232 944 l st M = am_inv 0 3 (.retAddr 100) st M := rfl
theorem xt_232_944 : am_to 232 944 = 198 := rfl
theorem xi_232_947 : am_do xs 232 947 l st M = am_i1 st fun x r => am_nx 949 (am_s1 l 6 (.int x)) r M := rfl
theorem xi_232_949 : am_do xs 232 949 l st M = am_lda (am_lg l 2) 950 l st M := rfl
theorem xi_232_950 : am_do xs 232 950 l st M = am_lda (am_lg l 0) 951 l st M := rfl
theorem xi_232_951 : am_do xs 232 951 l st M = am_ldi (am_lg l 5) 953 l st M := rfl
theorem xi_232_953 : am_do xs 232 953 l st M = am_nx 954 l (.int 1 :: st) M := rfl
theorem xi_232_954 : am_do xs 232 954 l st M = am_i2 st fun x y r => am_nx 955 l (.int (x + y) :: r) M := rfl
theorem xi_232_955 : am_do xs 232 955 l st M = am_ial xs st 956 l M := rfl
theorem xi_232_956 : am_do xs 232 956 l st M = am_inv 1 2 (.retAddr 8) st M := rfl
theorem xt_232_956 : am_to 232 956 = 127 := rfl
theorem xi_232_959 : am_do xs 232 959 l st M = am_j1 st fun x r => am_nx 961 (am_s2 l 7 (.long x)) r M := rfl
theorem xi_232_961 : am_do xs 232 961 l st M = am_lda (am_lg l 2) 962 l st M := rfl
theorem xi_232_962 : am_do xs 232 962 l st M = am_inv 1 1 (.retAddr 8) st M := rfl
theorem xt_232_962 : am_to 232 962 = 104 := rfl
theorem xi_232_965 : am_do xs 232 965 l st M = am_ldi (am_lg l 6) 967 l st M := rfl
theorem xi_232_967 : am_do xs 232 967 l st M = am_i2 st fun x y r => am_nx (if x = y then 972 else 970) l r M := rfl
theorem xi_232_970 : am_do xs 232 970 l st M = am_nx 971 l (.int 0 :: st) M := rfl
theorem xi_232_971 : am_do xs 232 971 l st M = am_rti st 2 := rfl
theorem xi_232_972 : am_do xs 232 972 l st M = am_ldi (am_lg l 6) 974 l st M := rfl
theorem xi_232_974 : am_do xs 232 974 l st M = am_i1 st fun x r => am_nx (if ¬ x = 0 then 988 else 977) l r M := rfl
theorem xi_232_977 : am_do xs 232 977 l st M = am_lda (am_lg l 3) 978 l st M := rfl
theorem xi_232_978 : am_do xs 232 978 l st M = am_nx 979 l (.int 0 :: st) M := rfl
theorem xi_232_979 : am_do xs 232 979 l st M = am_ia st fun i o r => (am_aj (am_f M o) i).bind fun x => am_nx 980 l (.long x :: r) M := rfl
theorem xi_232_980 : am_do xs 232 980 l st M = am_ldj (am_lg l 7) 982 l st M := rfl
theorem xi_232_982 : am_do xs 232 982 l st M = am_j2 st fun x y r => am_nx 983 l (.int (lg_cmp x y) :: r) M := rfl
theorem xi_232_983 : am_do xs 232 983 l st M = am_i1 st fun x r => am_nx (if x = 0 then 988 else 986) l r M := rfl
theorem xi_232_986 : am_do xs 232 986 l st M = am_nx 987 l (.int 0 :: st) M := rfl
theorem xi_232_987 : am_do xs 232 987 l st M = am_rti st 2 := rfl
theorem xi_232_988 : am_do xs 232 988 l st M = am_nx 3089 l st M := rfl
theorem xi_232_991 : am_do xs 232 991 l st M = am_lda (am_lg l 1) 992 l st M := rfl
theorem xi_232_992 : am_do xs 232 992 l st M = am_lda (am_lg l 0) 993 l st M := rfl
theorem xi_232_993 : am_do xs 232 993 l st M = am_ldi (am_lg l 5) 995 l st M := rfl
theorem xi_232_995 : am_do xs 232 995 l st M = am_nx 996 l (.int 1 :: st) M := rfl
theorem xi_232_996 : am_do xs 232 996 l st M = am_i2 st fun x y r => am_nx 997 l (.int (x + y) :: r) M := rfl
theorem xi_232_997 : am_do xs 232 997 l st M = am_ial xs st 998 l M := rfl
theorem xi_232_998 : am_do xs 232 998 l st M = am_lda (am_lg l 3) 999 l st M := rfl
theorem xi_232_999 : am_do xs 232 999 l st M = am_inv 0 3 (.retAddr 100) st M := rfl
theorem xt_232_999 : am_to 232 999 = 199 := rfl
theorem xi_232_1002 : am_do xs 232 1002 l st M = am_i1 st fun x r => am_nx 1004 (am_s1 l 6 (.int x)) r M := rfl
theorem xi_232_1004 : am_do xs 232 1004 l st M = am_lda (am_lg l 2) 1005 l st M := rfl
theorem xi_232_1005 : am_do xs 232 1005 l st M = am_lda (am_lg l 0) 1006 l st M := rfl
theorem xi_232_1006 : am_do xs 232 1006 l st M = am_ldi (am_lg l 5) 1008 l st M := rfl
theorem xi_232_1008 : am_do xs 232 1008 l st M = am_nx 1009 l (.int 1 :: st) M := rfl
theorem xi_232_1009 : am_do xs 232 1009 l st M = am_i2 st fun x y r => am_nx 1010 l (.int (x + y) :: r) M := rfl
theorem xi_232_1010 : am_do xs 232 1010 l st M = am_ial xs st 1011 l M := rfl
theorem xi_232_1011 : am_do xs 232 1011 l st M = am_inv 1 2 (.retAddr 8) st M := rfl
theorem xt_232_1011 : am_to 232 1011 = 128 := rfl
theorem xi_232_1014 : am_do xs 232 1014 l st M = am_i1 st fun x r => am_nx 1016 (am_s1 l 7 (.int x)) r M := rfl
theorem xi_232_1016 : am_do xs 232 1016 l st M = am_lda (am_lg l 2) 1017 l st M := rfl
theorem xi_232_1017 : am_do xs 232 1017 l st M = am_inv 1 1 (.retAddr 8) st M := rfl
theorem xt_232_1017 : am_to 232 1017 = 104 := rfl
theorem xi_232_1020 : am_do xs 232 1020 l st M = am_ldi (am_lg l 6) 1022 l st M := rfl
theorem xi_232_1022 : am_do xs 232 1022 l st M = am_i2 st fun x y r => am_nx (if x = y then 1027 else 1025) l r M := rfl
theorem xi_232_1025 : am_do xs 232 1025 l st M = am_nx 1026 l (.int 0 :: st) M := rfl
theorem xi_232_1026 : am_do xs 232 1026 l st M = am_rti st 2 := rfl
theorem xi_232_1027 : am_do xs 232 1027 l st M = am_ldi (am_lg l 6) 1029 l st M := rfl
theorem xi_232_1029 : am_do xs 232 1029 l st M = am_i1 st fun x r => am_nx (if ¬ x = 0 then 1044 else 1032) l r M := rfl
theorem xi_232_1032 : am_do xs 232 1032 l st M = am_lda (am_lg l 3) 1033 l st M := rfl
theorem xi_232_1033 : am_do xs 232 1033 l st M = am_nx 1034 l (.int 0 :: st) M := rfl
theorem xi_232_1034 : am_do xs 232 1034 l st M = am_ia st fun i o r => (am_aj (am_f M o) i).bind fun x => am_nx 1035 l (.long x :: r) M := rfl
theorem xi_232_1035 : am_do xs 232 1035 l st M = am_ldi (am_lg l 7) 1037 l st M := rfl
theorem xi_232_1037 : am_do xs 232 1037 l st M = am_i1 st fun x r => am_nx 1038 l (.long x.toInt64 :: r) M := rfl
theorem xi_232_1038 : am_do xs 232 1038 l st M = am_j2 st fun x y r => am_nx 1039 l (.int (lg_cmp x y) :: r) M := rfl
theorem xi_232_1039 : am_do xs 232 1039 l st M = am_i1 st fun x r => am_nx (if x = 0 then 1044 else 1042) l r M := rfl
theorem xi_232_1042 : am_do xs 232 1042 l st M = am_nx 1043 l (.int 0 :: st) M := rfl
theorem xi_232_1043 : am_do xs 232 1043 l st M = am_rti st 2 := rfl
theorem xi_232_1044 : am_do xs 232 1044 l st M = am_nx 3089 l st M := rfl
theorem xi_232_1047 : am_do xs 232 1047 l st M = am_lda (am_lg l 1) 1048 l st M := rfl
theorem xi_232_1048 : am_do xs 232 1048 l st M = am_lda (am_lg l 0) 1049 l st M := rfl
theorem xi_232_1049 : am_do xs 232 1049 l st M = am_ldi (am_lg l 5) 1051 l st M := rfl
theorem xi_232_1051 : am_do xs 232 1051 l st M = am_nx 1052 l (.int 1 :: st) M := rfl
theorem xi_232_1052 : am_do xs 232 1052 l st M = am_i2 st fun x y r => am_nx 1053 l (.int (x + y) :: r) M := rfl
theorem xi_232_1053 : am_do xs 232 1053 l st M = am_ial xs st 1054 l M := rfl
theorem xi_232_1054 : am_do xs 232 1054 l st M = am_inv 1 2 (.retAddr 7) st M := rfl
theorem xt_232_1054 : am_to 232 1054 = 44 := rfl
theorem xi_232_1057 : am_do xs 232 1057 l st M = am_lda (am_lg l 2) 1058 l st M := rfl
theorem xi_232_1058 : am_do xs 232 1058 l st M = am_lda (am_lg l 0) 1059 l st M := rfl
theorem xi_232_1059 : am_do xs 232 1059 l st M = am_ldi (am_lg l 5) 1061 l st M := rfl
theorem xi_232_1061 : am_do xs 232 1061 l st M = am_nx 1062 l (.int 1 :: st) M := rfl
theorem xi_232_1062 : am_do xs 232 1062 l st M = am_i2 st fun x y r => am_nx 1063 l (.int (x + y) :: r) M := rfl
theorem xi_232_1063 : am_do xs 232 1063 l st M = am_ial xs st 1064 l M := rfl
theorem xi_232_1064 : am_do xs 232 1064 l st M = am_inv 1 2 (.retAddr 8) st M := rfl
theorem xt_232_1064 : am_to 232 1064 = 129 := rfl
theorem xi_232_1067 : am_do xs 232 1067 l st M = am_i2 st fun x y r => am_nx (if x = y then 3089 else 1070) l r M := rfl
theorem xi_232_1070 : am_do xs 232 1070 l st M = am_nx 1071 l (.int 0 :: st) M := rfl
theorem xi_232_1071 : am_do xs 232 1071 l st M = am_rti st 2 := rfl
theorem xi_232_1072 : am_do xs 232 1072 l st M = am_lda (am_lg l 1) 1073 l st M := rfl
theorem xi_232_1073 : am_do xs 232 1073 l st M = am_lda (am_lg l 0) 1074 l st M := rfl
theorem xi_232_1074 : am_do xs 232 1074 l st M = am_ldi (am_lg l 5) 1076 l st M := rfl
theorem xi_232_1076 : am_do xs 232 1076 l st M = am_nx 1077 l (.int 1 :: st) M := rfl
theorem xi_232_1077 : am_do xs 232 1077 l st M = am_i2 st fun x y r => am_nx 1078 l (.int (x + y) :: r) M := rfl
theorem xi_232_1078 : am_do xs 232 1078 l st M = am_ial xs st 1079 l M := rfl
theorem xi_232_1079 : am_do xs 232 1079 l st M = am_lda (am_lg l 3) 1080 l st M := rfl
theorem xi_232_1080 : am_do xs 232 1080 l st M = am_inv 0 3 (.retAddr 100) st M := rfl
theorem xt_232_1080 : am_to 232 1080 = 200 := rfl
theorem xi_232_1083 : am_do xs 232 1083 l st M = am_i1 st fun x r => am_nx 1085 (am_s1 l 6 (.int x)) r M := rfl
theorem xi_232_1085 : am_do xs 232 1085 l st M = am_lda (am_lg l 2) 1086 l st M := rfl
theorem xi_232_1086 : am_do xs 232 1086 l st M = am_lda (am_lg l 0) 1087 l st M := rfl
theorem xi_232_1087 : am_do xs 232 1087 l st M = am_ldi (am_lg l 5) 1089 l st M := rfl
theorem xi_232_1089 : am_do xs 232 1089 l st M = am_nx 1090 l (.int 1 :: st) M := rfl
theorem xi_232_1090 : am_do xs 232 1090 l st M = am_i2 st fun x y r => am_nx 1091 l (.int (x + y) :: r) M := rfl
theorem xi_232_1091 : am_do xs 232 1091 l st M = am_ial xs st 1092 l M := rfl
theorem xi_232_1092 : am_do xs 232 1092 l st M = am_inv 1 2 (.retAddr 8) st M := rfl
theorem xt_232_1092 : am_to 232 1092 = 130 := rfl
theorem xi_232_1095 : am_do xs 232 1095 l st M = am_i1 st fun x r => am_nx 1097 (am_s1 l 7 (.int x)) r M := rfl
theorem xi_232_1097 : am_do xs 232 1097 l st M = am_lda (am_lg l 2) 1098 l st M := rfl
theorem xi_232_1098 : am_do xs 232 1098 l st M = am_inv 1 1 (.retAddr 8) st M := rfl
theorem xt_232_1098 : am_to 232 1098 = 104 := rfl
theorem xi_232_1101 : am_do xs 232 1101 l st M = am_ldi (am_lg l 6) 1103 l st M := rfl
theorem xi_232_1103 : am_do xs 232 1103 l st M = am_i2 st fun x y r => am_nx (if x = y then 1108 else 1106) l r M := rfl
theorem xi_232_1106 : am_do xs 232 1106 l st M = am_nx 1107 l (.int 0 :: st) M := rfl
theorem xi_232_1107 : am_do xs 232 1107 l st M = am_rti st 2 := rfl
theorem xi_232_1108 : am_do xs 232 1108 l st M = am_ldi (am_lg l 6) 1110 l st M := rfl
theorem xi_232_1110 : am_do xs 232 1110 l st M = am_i1 st fun x r => am_nx (if ¬ x = 0 then 1125 else 1113) l r M := rfl
theorem xi_232_1113 : am_do xs 232 1113 l st M = am_lda (am_lg l 3) 1114 l st M := rfl
theorem xi_232_1114 : am_do xs 232 1114 l st M = am_nx 1115 l (.int 0 :: st) M := rfl
theorem xi_232_1115 : am_do xs 232 1115 l st M = am_ia st fun i o r => (am_aj (am_f M o) i).bind fun x => am_nx 1116 l (.long x :: r) M := rfl
theorem xi_232_1116 : am_do xs 232 1116 l st M = am_ldi (am_lg l 7) 1118 l st M := rfl
theorem xi_232_1118 : am_do xs 232 1118 l st M = am_i1 st fun x r => am_nx 1119 l (.long x.toInt64 :: r) M := rfl
theorem xi_232_1119 : am_do xs 232 1119 l st M = am_j2 st fun x y r => am_nx 1120 l (.int (lg_cmp x y) :: r) M := rfl
theorem xi_232_1120 : am_do xs 232 1120 l st M = am_i1 st fun x r => am_nx (if x = 0 then 1125 else 1123) l r M := rfl
theorem xi_232_1123 : am_do xs 232 1123 l st M = am_nx 1124 l (.int 0 :: st) M := rfl
theorem xi_232_1124 : am_do xs 232 1124 l st M = am_rti st 2 := rfl
theorem xi_232_1125 : am_do xs 232 1125 l st M = am_nx 3089 l st M := rfl
theorem xi_232_1128 : am_do xs 232 1128 l st M = am_lda (am_lg l 1) 1129 l st M := rfl
theorem xi_232_1129 : am_do xs 232 1129 l st M = am_lda (am_lg l 0) 1130 l st M := rfl
theorem xi_232_1130 : am_do xs 232 1130 l st M = am_ldi (am_lg l 5) 1132 l st M := rfl
theorem xi_232_1132 : am_do xs 232 1132 l st M = am_nx 1133 l (.int 1 :: st) M := rfl
theorem xi_232_1133 : am_do xs 232 1133 l st M = am_i2 st fun x y r => am_nx 1134 l (.int (x + y) :: r) M := rfl
theorem xi_232_1134 : am_do xs 232 1134 l st M = am_ial xs st 1135 l M := rfl
theorem xi_232_1135 : am_do xs 232 1135 l st M = am_lda (am_lg l 3) 1136 l st M := rfl
theorem xi_232_1136 : am_do xs 232 1136 l st M = am_inv 0 3 (.retAddr 100) st M := rfl
theorem xt_232_1136 : am_to 232 1136 = 201 := rfl
theorem xi_232_1139 : am_do xs 232 1139 l st M = am_i1 st fun x r => am_nx 1141 (am_s1 l 6 (.int x)) r M := rfl
theorem xi_232_1141 : am_do xs 232 1141 l st M = am_lda (am_lg l 2) 1142 l st M := rfl
theorem xi_232_1142 : am_do xs 232 1142 l st M = am_lda (am_lg l 0) 1143 l st M := rfl
theorem xi_232_1143 : am_do xs 232 1143 l st M = am_ldi (am_lg l 5) 1145 l st M := rfl
theorem xi_232_1145 : am_do xs 232 1145 l st M = am_nx 1146 l (.int 1 :: st) M := rfl
theorem xi_232_1146 : am_do xs 232 1146 l st M = am_i2 st fun x y r => am_nx 1147 l (.int (x + y) :: r) M := rfl
theorem xi_232_1147 : am_do xs 232 1147 l st M = am_ial xs st 1148 l M := rfl
theorem xi_232_1148 : am_do xs 232 1148 l st M = am_inv 1 2 (.retAddr 8) st M := rfl
theorem xt_232_1148 : am_to 232 1148 = 135 := rfl
theorem xi_232_1151 : am_do xs 232 1151 l st M = am_j1 st fun x r => am_nx 1153 (am_s2 l 7 (.long x)) r M := rfl
theorem xi_232_1153 : am_do xs 232 1153 l st M = am_lda (am_lg l 2) 1154 l st M := rfl
theorem xi_232_1154 : am_do xs 232 1154 l st M = am_inv 1 1 (.retAddr 8) st M := rfl
theorem xt_232_1154 : am_to 232 1154 = 104 := rfl
theorem xi_232_1157 : am_do xs 232 1157 l st M = am_ldi (am_lg l 6) 1159 l st M := rfl
theorem xi_232_1159 : am_do xs 232 1159 l st M = am_i2 st fun x y r => am_nx (if x = y then 1164 else 1162) l r M := rfl
theorem xi_232_1162 : am_do xs 232 1162 l st M = am_nx 1163 l (.int 0 :: st) M := rfl
theorem xi_232_1163 : am_do xs 232 1163 l st M = am_rti st 2 := rfl
theorem xi_232_1164 : am_do xs 232 1164 l st M = am_ldi (am_lg l 6) 1166 l st M := rfl
theorem xi_232_1166 : am_do xs 232 1166 l st M = am_i1 st fun x r => am_nx (if ¬ x = 0 then 1180 else 1169) l r M := rfl
theorem xi_232_1169 : am_do xs 232 1169 l st M = am_lda (am_lg l 3) 1170 l st M := rfl
theorem xi_232_1170 : am_do xs 232 1170 l st M = am_nx 1171 l (.int 0 :: st) M := rfl
theorem xi_232_1171 : am_do xs 232 1171 l st M = am_ia st fun i o r => (am_aj (am_f M o) i).bind fun x => am_nx 1172 l (.long x :: r) M := rfl
theorem xi_232_1172 : am_do xs 232 1172 l st M = am_ldj (am_lg l 7) 1174 l st M := rfl
theorem xi_232_1174 : am_do xs 232 1174 l st M = am_j2 st fun x y r => am_nx 1175 l (.int (lg_cmp x y) :: r) M := rfl
theorem xi_232_1175 : am_do xs 232 1175 l st M = am_i1 st fun x r => am_nx (if x = 0 then 1180 else 1178) l r M := rfl
theorem xi_232_1178 : am_do xs 232 1178 l st M = am_nx 1179 l (.int 0 :: st) M := rfl
theorem xi_232_1179 : am_do xs 232 1179 l st M = am_rti st 2 := rfl
theorem xi_232_1180 : am_do xs 232 1180 l st M = am_nx 3089 l st M := rfl
theorem xi_232_1183 : am_do xs 232 1183 l st M = am_lda (am_lg l 1) 1184 l st M := rfl
theorem xi_232_1184 : am_do xs 232 1184 l st M = am_lda (am_lg l 0) 1185 l st M := rfl
theorem xi_232_1185 : am_do xs 232 1185 l st M = am_ldi (am_lg l 5) 1187 l st M := rfl
theorem xi_232_1187 : am_do xs 232 1187 l st M = am_nx 1188 l (.int 1 :: st) M := rfl
theorem xi_232_1188 : am_do xs 232 1188 l st M = am_i2 st fun x y r => am_nx 1189 l (.int (x + y) :: r) M := rfl
theorem xi_232_1189 : am_do xs 232 1189 l st M = am_ial xs st 1190 l M := rfl
theorem xi_232_1190 : am_do xs 232 1190 l st M = am_lda (am_lg l 3) 1191 l st M := rfl
theorem xi_232_1191 : am_do xs 232 1191 l st M = am_inv 0 3 (.retAddr 100) st M := rfl
theorem xt_232_1191 : am_to 232 1191 = 202 := rfl
theorem xi_232_1194 : am_do xs 232 1194 l st M = am_i1 st fun x r => am_nx 1196 (am_s1 l 6 (.int x)) r M := rfl
theorem xi_232_1196 : am_do xs 232 1196 l st M = am_lda (am_lg l 2) 1197 l st M := rfl
theorem xi_232_1197 : am_do xs 232 1197 l st M = am_lda (am_lg l 0) 1198 l st M := rfl
theorem xi_232_1198 : am_do xs 232 1198 l st M = am_ldi (am_lg l 5) 1200 l st M := rfl
theorem xi_232_1200 : am_do xs 232 1200 l st M = am_nx 1201 l (.int 1 :: st) M := rfl
theorem xi_232_1201 : am_do xs 232 1201 l st M = am_i2 st fun x y r => am_nx 1202 l (.int (x + y) :: r) M := rfl
theorem xi_232_1202 : am_do xs 232 1202 l st M = am_ial xs st 1203 l M := rfl
theorem xi_232_1203 : am_do xs 232 1203 l st M = am_inv 1 2 (.retAddr 8) st M := rfl
theorem xt_232_1203 : am_to 232 1203 = 136 := rfl
theorem xi_232_1206 : am_do xs 232 1206 l st M = am_j1 st fun x r => am_nx 1208 (am_s2 l 7 (.long x)) r M := rfl
theorem xi_232_1208 : am_do xs 232 1208 l st M = am_lda (am_lg l 2) 1209 l st M := rfl
theorem xi_232_1209 : am_do xs 232 1209 l st M = am_inv 1 1 (.retAddr 8) st M := rfl
theorem xt_232_1209 : am_to 232 1209 = 104 := rfl
theorem xi_232_1212 : am_do xs 232 1212 l st M = am_ldi (am_lg l 6) 1214 l st M := rfl
theorem xi_232_1214 : am_do xs 232 1214 l st M = am_i2 st fun x y r => am_nx (if x = y then 1219 else 1217) l r M := rfl
theorem xi_232_1217 : am_do xs 232 1217 l st M = am_nx 1218 l (.int 0 :: st) M := rfl
theorem xi_232_1218 : am_do xs 232 1218 l st M = am_rti st 2 := rfl
theorem xi_232_1219 : am_do xs 232 1219 l st M = am_ldi (am_lg l 6) 1221 l st M := rfl
theorem xi_232_1221 : am_do xs 232 1221 l st M = am_i1 st fun x r => am_nx (if ¬ x = 0 then 1235 else 1224) l r M := rfl
theorem xi_232_1224 : am_do xs 232 1224 l st M = am_lda (am_lg l 3) 1225 l st M := rfl
theorem xi_232_1225 : am_do xs 232 1225 l st M = am_nx 1226 l (.int 0 :: st) M := rfl
theorem xi_232_1226 : am_do xs 232 1226 l st M = am_ia st fun i o r => (am_aj (am_f M o) i).bind fun x => am_nx 1227 l (.long x :: r) M := rfl
theorem xi_232_1227 : am_do xs 232 1227 l st M = am_ldj (am_lg l 7) 1229 l st M := rfl
theorem xi_232_1229 : am_do xs 232 1229 l st M = am_j2 st fun x y r => am_nx 1230 l (.int (lg_cmp x y) :: r) M := rfl
theorem xi_232_1230 : am_do xs 232 1230 l st M = am_i1 st fun x r => am_nx (if x = 0 then 1235 else 1233) l r M := rfl
theorem xi_232_1233 : am_do xs 232 1233 l st M = am_nx 1234 l (.int 0 :: st) M := rfl
theorem xi_232_1234 : am_do xs 232 1234 l st M = am_rti st 2 := rfl
theorem xi_232_1235 : am_do xs 232 1235 l st M = am_nx 3089 l st M := rfl
theorem xi_232_1238 : am_do xs 232 1238 l st M = am_lda (am_lg l 1) 1239 l st M := rfl
theorem xi_232_1239 : am_do xs 232 1239 l st M = am_lda (am_lg l 0) 1240 l st M := rfl
theorem xi_232_1240 : am_do xs 232 1240 l st M = am_ldi (am_lg l 5) 1242 l st M := rfl
theorem xi_232_1242 : am_do xs 232 1242 l st M = am_nx 1243 l (.int 1 :: st) M := rfl
theorem xi_232_1243 : am_do xs 232 1243 l st M = am_i2 st fun x y r => am_nx 1244 l (.int (x + y) :: r) M := rfl
theorem xi_232_1244 : am_do xs 232 1244 l st M = am_ial xs st 1245 l M := rfl
theorem xi_232_1245 : am_do xs 232 1245 l st M = am_lda (am_lg l 3) 1246 l st M := rfl
theorem xi_232_1246 : am_do xs 232 1246 l st M = am_inv 0 3 (.retAddr 100) st M := rfl
theorem xt_232_1246 : am_to 232 1246 = 203 := rfl
theorem xi_232_1249 : am_do xs 232 1249 l st M = am_i1 st fun x r => am_nx 1251 (am_s1 l 6 (.int x)) r M := rfl
theorem xi_232_1251 : am_do xs 232 1251 l st M = am_lda (am_lg l 2) 1252 l st M := rfl
theorem xi_232_1252 : am_do xs 232 1252 l st M = am_lda (am_lg l 0) 1253 l st M := rfl
theorem xi_232_1253 : am_do xs 232 1253 l st M = am_ldi (am_lg l 5) 1255 l st M := rfl
theorem xi_232_1255 : am_do xs 232 1255 l st M = am_nx 1256 l (.int 1 :: st) M := rfl
theorem xi_232_1256 : am_do xs 232 1256 l st M = am_i2 st fun x y r => am_nx 1257 l (.int (x + y) :: r) M := rfl
theorem xi_232_1257 : am_do xs 232 1257 l st M = am_ial xs st 1258 l M := rfl
theorem xi_232_1258 : am_do xs 232 1258 l st M = am_inv 1 2 (.retAddr 8) st M := rfl
theorem xt_232_1258 : am_to 232 1258 = 137 := rfl
theorem xi_232_1261 : am_do xs 232 1261 l st M = am_i1 st fun x r => am_nx 1263 (am_s1 l 7 (.int x)) r M := rfl
theorem xi_232_1263 : am_do xs 232 1263 l st M = am_lda (am_lg l 2) 1264 l st M := rfl
theorem xi_232_1264 : am_do xs 232 1264 l st M = am_inv 1 1 (.retAddr 8) st M := rfl
theorem xt_232_1264 : am_to 232 1264 = 104 := rfl
theorem xi_232_1267 : am_do xs 232 1267 l st M = am_ldi (am_lg l 6) 1269 l st M := rfl
theorem xi_232_1269 : am_do xs 232 1269 l st M = am_i2 st fun x y r => am_nx (if x = y then 1274 else 1272) l r M := rfl
theorem xi_232_1272 : am_do xs 232 1272 l st M = am_nx 1273 l (.int 0 :: st) M := rfl
theorem xi_232_1273 : am_do xs 232 1273 l st M = am_rti st 2 := rfl
theorem xi_232_1274 : am_do xs 232 1274 l st M = am_ldi (am_lg l 6) 1276 l st M := rfl
theorem xi_232_1276 : am_do xs 232 1276 l st M = am_i1 st fun x r => am_nx (if ¬ x = 0 then 1291 else 1279) l r M := rfl
theorem xi_232_1279 : am_do xs 232 1279 l st M = am_lda (am_lg l 3) 1280 l st M := rfl
theorem xi_232_1280 : am_do xs 232 1280 l st M = am_nx 1281 l (.int 0 :: st) M := rfl
theorem xi_232_1281 : am_do xs 232 1281 l st M = am_ia st fun i o r => (am_aj (am_f M o) i).bind fun x => am_nx 1282 l (.long x :: r) M := rfl
theorem xi_232_1282 : am_do xs 232 1282 l st M = am_ldi (am_lg l 7) 1284 l st M := rfl
theorem xi_232_1284 : am_do xs 232 1284 l st M = am_i1 st fun x r => am_nx 1285 l (.long x.toInt64 :: r) M := rfl
theorem xi_232_1285 : am_do xs 232 1285 l st M = am_j2 st fun x y r => am_nx 1286 l (.int (lg_cmp x y) :: r) M := rfl
theorem xi_232_1286 : am_do xs 232 1286 l st M = am_i1 st fun x r => am_nx (if x = 0 then 1291 else 1289) l r M := rfl
theorem xi_232_1289 : am_do xs 232 1289 l st M = am_nx 1290 l (.int 0 :: st) M := rfl
theorem xi_232_1290 : am_do xs 232 1290 l st M = am_rti st 2 := rfl
theorem xi_232_1291 : am_do xs 232 1291 l st M = am_nx 3089 l st M := rfl
theorem xi_232_1294 : am_do xs 232 1294 l st M = am_lda (am_lg l 1) 1295 l st M := rfl
theorem xi_232_1295 : am_do xs 232 1295 l st M = am_lda (am_lg l 3) 1296 l st M := rfl
theorem xi_232_1296 : am_do xs 232 1296 l st M = am_inv 0 2 (.retAddr 100) st M := rfl
theorem xt_232_1296 : am_to 232 1296 = 204 := rfl
theorem xi_232_1299 : am_do xs 232 1299 l st M = am_i1 st fun x r => am_nx 1301 (am_s1 l 6 (.int x)) r M := rfl
theorem xi_232_1301 : am_do xs 232 1301 l st M = am_lda (am_lg l 2) 1302 l st M := rfl
theorem xi_232_1302 : am_do xs 232 1302 l st M = am_inv 1 1 (.retAddr 8) st M := rfl
theorem xt_232_1302 : am_to 232 1302 = 138 := rfl
theorem xi_232_1305 : am_do xs 232 1305 l st M = am_i1 st fun x r => am_nx 1307 (am_s1 l 7 (.int x)) r M := rfl
theorem xi_232_1307 : am_do xs 232 1307 l st M = am_lda (am_lg l 2) 1308 l st M := rfl
theorem xi_232_1308 : am_do xs 232 1308 l st M = am_inv 1 1 (.retAddr 8) st M := rfl
theorem xt_232_1308 : am_to 232 1308 = 104 := rfl
theorem xi_232_1311 : am_do xs 232 1311 l st M = am_ldi (am_lg l 6) 1313 l st M := rfl
theorem xi_232_1313 : am_do xs 232 1313 l st M = am_i2 st fun x y r => am_nx (if x = y then 1318 else 1316) l r M := rfl
theorem xi_232_1316 : am_do xs 232 1316 l st M = am_nx 1317 l (.int 0 :: st) M := rfl
theorem xi_232_1317 : am_do xs 232 1317 l st M = am_rti st 2 := rfl
theorem xi_232_1318 : am_do xs 232 1318 l st M = am_ldi (am_lg l 6) 1320 l st M := rfl
theorem xi_232_1320 : am_do xs 232 1320 l st M = am_i1 st fun x r => am_nx (if ¬ x = 0 then 1335 else 1323) l r M := rfl
theorem xi_232_1323 : am_do xs 232 1323 l st M = am_lda (am_lg l 3) 1324 l st M := rfl
theorem xi_232_1324 : am_do xs 232 1324 l st M = am_nx 1325 l (.int 0 :: st) M := rfl
theorem xi_232_1325 : am_do xs 232 1325 l st M = am_ia st fun i o r => (am_aj (am_f M o) i).bind fun x => am_nx 1326 l (.long x :: r) M := rfl
theorem xi_232_1326 : am_do xs 232 1326 l st M = am_ldi (am_lg l 7) 1328 l st M := rfl
theorem xi_232_1328 : am_do xs 232 1328 l st M = am_i1 st fun x r => am_nx 1329 l (.long x.toInt64 :: r) M := rfl
theorem xi_232_1329 : am_do xs 232 1329 l st M = am_j2 st fun x y r => am_nx 1330 l (.int (lg_cmp x y) :: r) M := rfl
theorem xi_232_1330 : am_do xs 232 1330 l st M = am_i1 st fun x r => am_nx (if x = 0 then 1335 else 1333) l r M := rfl
theorem xi_232_1333 : am_do xs 232 1333 l st M = am_nx 1334 l (.int 0 :: st) M := rfl
theorem xi_232_1334 : am_do xs 232 1334 l st M = am_rti st 2 := rfl
theorem xi_232_1335 : am_do xs 232 1335 l st M = am_nx 3089 l st M := rfl
theorem xi_232_1338 : am_do xs 232 1338 l st M = am_lda (am_lg l 1) 1339 l st M := rfl
theorem xi_232_1339 : am_do xs 232 1339 l st M = am_lda (am_lg l 3) 1340 l st M := rfl
theorem xi_232_1340 : am_do xs 232 1340 l st M = am_inv 0 2 (.retAddr 100) st M := rfl
theorem xt_232_1340 : am_to 232 1340 = 205 := rfl
theorem xi_232_1343 : am_do xs 232 1343 l st M = am_i1 st fun x r => am_nx 1345 (am_s1 l 6 (.int x)) r M := rfl
theorem xi_232_1345 : am_do xs 232 1345 l st M = am_lda (am_lg l 2) 1346 l st M := rfl
theorem xi_232_1346 : am_do xs 232 1346 l st M = am_inv 1 1 (.retAddr 8) st M := rfl
theorem xt_232_1346 : am_to 232 1346 = 140 := rfl
theorem xi_232_1349 : am_do xs 232 1349 l st M = am_i1 st fun x r => am_nx 1351 (am_s1 l 7 (.int x)) r M := rfl
theorem xi_232_1351 : am_do xs 232 1351 l st M = am_lda (am_lg l 2) 1352 l st M := rfl
theorem xi_232_1352 : am_do xs 232 1352 l st M = am_inv 1 1 (.retAddr 8) st M := rfl
theorem xt_232_1352 : am_to 232 1352 = 104 := rfl
theorem xi_232_1355 : am_do xs 232 1355 l st M = am_ldi (am_lg l 6) 1357 l st M := rfl
theorem xi_232_1357 : am_do xs 232 1357 l st M = am_i2 st fun x y r => am_nx (if x = y then 1362 else 1360) l r M := rfl
theorem xi_232_1360 : am_do xs 232 1360 l st M = am_nx 1361 l (.int 0 :: st) M := rfl
theorem xi_232_1361 : am_do xs 232 1361 l st M = am_rti st 2 := rfl
theorem xi_232_1362 : am_do xs 232 1362 l st M = am_ldi (am_lg l 6) 1364 l st M := rfl
theorem xi_232_1364 : am_do xs 232 1364 l st M = am_i1 st fun x r => am_nx (if ¬ x = 0 then 1379 else 1367) l r M := rfl
theorem xi_232_1367 : am_do xs 232 1367 l st M = am_lda (am_lg l 3) 1368 l st M := rfl
theorem xi_232_1368 : am_do xs 232 1368 l st M = am_nx 1369 l (.int 0 :: st) M := rfl
theorem xi_232_1369 : am_do xs 232 1369 l st M = am_ia st fun i o r => (am_aj (am_f M o) i).bind fun x => am_nx 1370 l (.long x :: r) M := rfl
theorem xi_232_1370 : am_do xs 232 1370 l st M = am_ldi (am_lg l 7) 1372 l st M := rfl
theorem xi_232_1372 : am_do xs 232 1372 l st M = am_i1 st fun x r => am_nx 1373 l (.long x.toInt64 :: r) M := rfl
theorem xi_232_1373 : am_do xs 232 1373 l st M = am_j2 st fun x y r => am_nx 1374 l (.int (lg_cmp x y) :: r) M := rfl
theorem xi_232_1374 : am_do xs 232 1374 l st M = am_i1 st fun x r => am_nx (if x = 0 then 1379 else 1377) l r M := rfl
theorem xi_232_1377 : am_do xs 232 1377 l st M = am_nx 1378 l (.int 0 :: st) M := rfl
theorem xi_232_1378 : am_do xs 232 1378 l st M = am_rti st 2 := rfl
theorem xi_232_1379 : am_do xs 232 1379 l st M = am_nx 3089 l st M := rfl
theorem xi_232_1382 : am_do xs 232 1382 l st M = am_lda (am_lg l 1) 1383 l st M := rfl
theorem xi_232_1383 : am_do xs 232 1383 l st M = am_lda (am_lg l 3) 1384 l st M := rfl
theorem xi_232_1384 : am_do xs 232 1384 l st M = am_inv 0 2 (.retAddr 100) st M := rfl
theorem xt_232_1384 : am_to 232 1384 = 206 := rfl
theorem xi_232_1387 : am_do xs 232 1387 l st M = am_i1 st fun x r => am_nx 1389 (am_s1 l 6 (.int x)) r M := rfl
theorem xi_232_1389 : am_do xs 232 1389 l st M = am_lda (am_lg l 2) 1390 l st M := rfl
theorem xi_232_1390 : am_do xs 232 1390 l st M = am_inv 1 1 (.retAddr 8) st M := rfl
theorem xt_232_1390 : am_to 232 1390 = 141 := rfl
theorem xi_232_1393 : am_do xs 232 1393 l st M = am_i1 st fun x r => am_nx 1395 (am_s1 l 7 (.int x)) r M := rfl
theorem xi_232_1395 : am_do xs 232 1395 l st M = am_lda (am_lg l 2) 1396 l st M := rfl
theorem xi_232_1396 : am_do xs 232 1396 l st M = am_inv 1 1 (.retAddr 8) st M := rfl
theorem xt_232_1396 : am_to 232 1396 = 104 := rfl
theorem xi_232_1399 : am_do xs 232 1399 l st M = am_ldi (am_lg l 6) 1401 l st M := rfl
theorem xi_232_1401 : am_do xs 232 1401 l st M = am_i2 st fun x y r => am_nx (if x = y then 1406 else 1404) l r M := rfl
theorem xi_232_1404 : am_do xs 232 1404 l st M = am_nx 1405 l (.int 0 :: st) M := rfl
theorem xi_232_1405 : am_do xs 232 1405 l st M = am_rti st 2 := rfl
theorem xi_232_1406 : am_do xs 232 1406 l st M = am_ldi (am_lg l 6) 1408 l st M := rfl
theorem xi_232_1408 : am_do xs 232 1408 l st M = am_i1 st fun x r => am_nx (if ¬ x = 0 then 1423 else 1411) l r M := rfl
theorem xi_232_1411 : am_do xs 232 1411 l st M = am_lda (am_lg l 3) 1412 l st M := rfl
theorem xi_232_1412 : am_do xs 232 1412 l st M = am_nx 1413 l (.int 0 :: st) M := rfl
theorem xi_232_1413 : am_do xs 232 1413 l st M = am_ia st fun i o r => (am_aj (am_f M o) i).bind fun x => am_nx 1414 l (.long x :: r) M := rfl
theorem xi_232_1414 : am_do xs 232 1414 l st M = am_ldi (am_lg l 7) 1416 l st M := rfl
theorem xi_232_1416 : am_do xs 232 1416 l st M = am_i1 st fun x r => am_nx 1417 l (.long x.toInt64 :: r) M := rfl
theorem xi_232_1417 : am_do xs 232 1417 l st M = am_j2 st fun x y r => am_nx 1418 l (.int (lg_cmp x y) :: r) M := rfl
theorem xi_232_1418 : am_do xs 232 1418 l st M = am_i1 st fun x r => am_nx (if x = 0 then 1423 else 1421) l r M := rfl
theorem xi_232_1421 : am_do xs 232 1421 l st M = am_nx 1422 l (.int 0 :: st) M := rfl
theorem xi_232_1422 : am_do xs 232 1422 l st M = am_rti st 2 := rfl
theorem xi_232_1423 : am_do xs 232 1423 l st M = am_nx 3089 l st M := rfl
theorem xi_232_1426 : am_do xs 232 1426 l st M = am_lda (am_lg l 1) 1427 l st M := rfl
theorem xi_232_1427 : am_do xs 232 1427 l st M = am_lda (am_lg l 0) 1428 l st M := rfl
theorem xi_232_1428 : am_do xs 232 1428 l st M = am_ldi (am_lg l 5) 1430 l st M := rfl
theorem xi_232_1430 : am_do xs 232 1430 l st M = am_nx 1431 l (.int 1 :: st) M := rfl
theorem xi_232_1431 : am_do xs 232 1431 l st M = am_i2 st fun x y r => am_nx 1432 l (.int (x + y) :: r) M := rfl
theorem xi_232_1432 : am_do xs 232 1432 l st M = am_ial xs st 1433 l M := rfl
theorem xi_232_1433 : am_do xs 232 1433 l st M = am_lda (am_lg l 3) 1434 l st M := rfl
theorem xi_232_1434 : am_do xs 232 1434 l st M = am_inv 0 3 (.retAddr 100) st M := rfl
theorem xt_232_1434 : am_to 232 1434 = 207 := rfl
theorem xi_232_1437 : am_do xs 232 1437 l st M = am_i1 st fun x r => am_nx 1439 (am_s1 l 6 (.int x)) r M := rfl
theorem xi_232_1439 : am_do xs 232 1439 l st M = am_lda (am_lg l 2) 1440 l st M := rfl
theorem xi_232_1440 : am_do xs 232 1440 l st M = am_lda (am_lg l 0) 1441 l st M := rfl
theorem xi_232_1441 : am_do xs 232 1441 l st M = am_ldi (am_lg l 5) 1443 l st M := rfl
theorem xi_232_1443 : am_do xs 232 1443 l st M = am_nx 1444 l (.int 1 :: st) M := rfl
theorem xi_232_1444 : am_do xs 232 1444 l st M = am_i2 st fun x y r => am_nx 1445 l (.int (x + y) :: r) M := rfl
theorem xi_232_1445 : am_do xs 232 1445 l st M = am_ial xs st 1446 l M := rfl
theorem xi_232_1446 : am_do xs 232 1446 l st M = am_inv 1 2 (.retAddr 8) st M := rfl
theorem xt_232_1446 : am_to 232 1446 = 142 := rfl
theorem xi_232_1449 : am_do xs 232 1449 l st M = am_j1 st fun x r => am_nx 1451 (am_s2 l 7 (.long x)) r M := rfl
theorem xi_232_1451 : am_do xs 232 1451 l st M = am_lda (am_lg l 2) 1452 l st M := rfl
theorem xi_232_1452 : am_do xs 232 1452 l st M = am_inv 1 1 (.retAddr 8) st M := rfl
theorem xt_232_1452 : am_to 232 1452 = 104 := rfl
theorem xi_232_1455 : am_do xs 232 1455 l st M = am_ldi (am_lg l 6) 1457 l st M := rfl
theorem xi_232_1457 : am_do xs 232 1457 l st M = am_i2 st fun x y r => am_nx (if x = y then 1462 else 1460) l r M := rfl
theorem xi_232_1460 : am_do xs 232 1460 l st M = am_nx 1461 l (.int 0 :: st) M := rfl
theorem xi_232_1461 : am_do xs 232 1461 l st M = am_rti st 2 := rfl
theorem xi_232_1462 : am_do xs 232 1462 l st M = am_ldi (am_lg l 6) 1464 l st M := rfl
theorem xi_232_1464 : am_do xs 232 1464 l st M = am_i1 st fun x r => am_nx (if ¬ x = 0 then 1478 else 1467) l r M := rfl
theorem xi_232_1467 : am_do xs 232 1467 l st M = am_lda (am_lg l 3) 1468 l st M := rfl
theorem xi_232_1468 : am_do xs 232 1468 l st M = am_nx 1469 l (.int 0 :: st) M := rfl
theorem xi_232_1469 : am_do xs 232 1469 l st M = am_ia st fun i o r => (am_aj (am_f M o) i).bind fun x => am_nx 1470 l (.long x :: r) M := rfl
theorem xi_232_1470 : am_do xs 232 1470 l st M = am_ldj (am_lg l 7) 1472 l st M := rfl
theorem xi_232_1472 : am_do xs 232 1472 l st M = am_j2 st fun x y r => am_nx 1473 l (.int (lg_cmp x y) :: r) M := rfl
theorem xi_232_1473 : am_do xs 232 1473 l st M = am_i1 st fun x r => am_nx (if x = 0 then 1478 else 1476) l r M := rfl
theorem xi_232_1476 : am_do xs 232 1476 l st M = am_nx 1477 l (.int 0 :: st) M := rfl
theorem xi_232_1477 : am_do xs 232 1477 l st M = am_rti st 2 := rfl
theorem xi_232_1478 : am_do xs 232 1478 l st M = am_nx 3089 l st M := rfl
theorem xi_232_1481 : am_do xs 232 1481 l st M = am_lda (am_lg l 1) 1482 l st M := rfl
theorem xi_232_1482 : am_do xs 232 1482 l st M = am_inv 1 1 (.retAddr 7) st M := rfl
theorem xt_232_1482 : am_to 232 1482 = 53 := rfl
theorem xi_232_1485 : am_do xs 232 1485 l st M = am_lda (am_lg l 2) 1486 l st M := rfl
theorem xi_232_1486 : am_do xs 232 1486 l st M = am_inv 1 1 (.retAddr 8) st M := rfl
theorem xt_232_1486 : am_to 232 1486 = 143 := rfl
theorem xi_232_1489 : am_do xs 232 1489 l st M = am_i2 st fun x y r => am_nx (if x = y then 3089 else 1492) l r M := rfl
theorem xi_232_1492 : am_do xs 232 1492 l st M = am_nx 1493 l (.int 0 :: st) M := rfl
theorem xi_232_1493 : am_do xs 232 1493 l st M = am_rti st 2 := rfl
theorem xi_232_1494 : am_do xs 232 1494 l st M = am_lda (am_lg l 1) 1495 l st M := rfl
theorem xi_232_1495 : am_do xs 232 1495 l st M = am_lda (am_lg l 0) 1496 l st M := rfl
theorem xi_232_1496 : am_do xs 232 1496 l st M = am_ldi (am_lg l 5) 1498 l st M := rfl
theorem xi_232_1498 : am_do xs 232 1498 l st M = am_nx 1499 l (.int 1 :: st) M := rfl
theorem xi_232_1499 : am_do xs 232 1499 l st M = am_i2 st fun x y r => am_nx 1500 l (.int (x + y) :: r) M := rfl
theorem xi_232_1500 : am_do xs 232 1500 l st M = am_ial xs st 1501 l M := rfl
theorem xi_232_1501 : am_do xs 232 1501 l st M = am_lda (am_lg l 3) 1502 l st M := rfl
theorem xi_232_1502 : am_do xs 232 1502 l st M = am_inv 0 3 (.retAddr 100) st M := rfl
theorem xt_232_1502 : am_to 232 1502 = 208 := rfl
theorem xi_232_1505 : am_do xs 232 1505 l st M = am_i1 st fun x r => am_nx 1507 (am_s1 l 6 (.int x)) r M := rfl
theorem xi_232_1507 : am_do xs 232 1507 l st M = am_lda (am_lg l 2) 1508 l st M := rfl
theorem xi_232_1508 : am_do xs 232 1508 l st M = am_lda (am_lg l 0) 1509 l st M := rfl
theorem xi_232_1509 : am_do xs 232 1509 l st M = am_ldi (am_lg l 5) 1511 l st M := rfl
theorem xi_232_1511 : am_do xs 232 1511 l st M = am_nx 1512 l (.int 1 :: st) M := rfl
theorem xi_232_1512 : am_do xs 232 1512 l st M = am_i2 st fun x y r => am_nx 1513 l (.int (x + y) :: r) M := rfl
theorem xi_232_1513 : am_do xs 232 1513 l st M = am_ial xs st 1514 l M := rfl
theorem xi_232_1514 : am_do xs 232 1514 l st M = am_inv 1 2 (.retAddr 8) st M := rfl
theorem xt_232_1514 : am_to 232 1514 = 147 := rfl
theorem xi_232_1517 : am_do xs 232 1517 l st M = am_i1 st fun x r => am_nx 1519 (am_s1 l 7 (.int x)) r M := rfl
theorem xi_232_1519 : am_do xs 232 1519 l st M = am_lda (am_lg l 2) 1520 l st M := rfl
theorem xi_232_1520 : am_do xs 232 1520 l st M = am_inv 1 1 (.retAddr 8) st M := rfl
theorem xt_232_1520 : am_to 232 1520 = 104 := rfl
theorem xi_232_1523 : am_do xs 232 1523 l st M = am_ldi (am_lg l 6) 1525 l st M := rfl
theorem xi_232_1525 : am_do xs 232 1525 l st M = am_i2 st fun x y r => am_nx (if x = y then 1530 else 1528) l r M := rfl
theorem xi_232_1528 : am_do xs 232 1528 l st M = am_nx 1529 l (.int 0 :: st) M := rfl
theorem xi_232_1529 : am_do xs 232 1529 l st M = am_rti st 2 := rfl
theorem xi_232_1530 : am_do xs 232 1530 l st M = am_ldi (am_lg l 6) 1532 l st M := rfl
theorem xi_232_1532 : am_do xs 232 1532 l st M = am_i1 st fun x r => am_nx (if ¬ x = 0 then 1547 else 1535) l r M := rfl
theorem xi_232_1535 : am_do xs 232 1535 l st M = am_lda (am_lg l 3) 1536 l st M := rfl
theorem xi_232_1536 : am_do xs 232 1536 l st M = am_nx 1537 l (.int 0 :: st) M := rfl
theorem xi_232_1537 : am_do xs 232 1537 l st M = am_ia st fun i o r => (am_aj (am_f M o) i).bind fun x => am_nx 1538 l (.long x :: r) M := rfl
theorem xi_232_1538 : am_do xs 232 1538 l st M = am_ldi (am_lg l 7) 1540 l st M := rfl
theorem xi_232_1540 : am_do xs 232 1540 l st M = am_i1 st fun x r => am_nx 1541 l (.long x.toInt64 :: r) M := rfl
theorem xi_232_1541 : am_do xs 232 1541 l st M = am_j2 st fun x y r => am_nx 1542 l (.int (lg_cmp x y) :: r) M := rfl
theorem xi_232_1542 : am_do xs 232 1542 l st M = am_i1 st fun x r => am_nx (if x = 0 then 1547 else 1545) l r M := rfl
theorem xi_232_1545 : am_do xs 232 1545 l st M = am_nx 1546 l (.int 0 :: st) M := rfl
theorem xi_232_1546 : am_do xs 232 1546 l st M = am_rti st 2 := rfl
theorem xi_232_1547 : am_do xs 232 1547 l st M = am_nx 3089 l st M := rfl
theorem xi_232_1550 : am_do xs 232 1550 l st M = am_lda (am_lg l 1) 1551 l st M := rfl
theorem xi_232_1551 : am_do xs 232 1551 l st M = am_lda (am_lg l 0) 1552 l st M := rfl
theorem xi_232_1552 : am_do xs 232 1552 l st M = am_ldi (am_lg l 5) 1554 l st M := rfl
theorem xi_232_1554 : am_do xs 232 1554 l st M = am_nx 1555 l (.int 1 :: st) M := rfl
theorem xi_232_1555 : am_do xs 232 1555 l st M = am_i2 st fun x y r => am_nx 1556 l (.int (x + y) :: r) M := rfl
theorem xi_232_1556 : am_do xs 232 1556 l st M = am_ial xs st 1557 l M := rfl
theorem xi_232_1557 : am_do xs 232 1557 l st M = am_lda (am_lg l 3) 1558 l st M := rfl
theorem xi_232_1558 : am_do xs 232 1558 l st M = am_inv 0 3 (.retAddr 100) st M := rfl
theorem xt_232_1558 : am_to 232 1558 = 209 := rfl
theorem xi_232_1561 : am_do xs 232 1561 l st M = am_i1 st fun x r => am_nx 1563 (am_s1 l 6 (.int x)) r M := rfl
theorem xi_232_1563 : am_do xs 232 1563 l st M = am_lda (am_lg l 2) 1564 l st M := rfl
theorem xi_232_1564 : am_do xs 232 1564 l st M = am_lda (am_lg l 0) 1565 l st M := rfl
theorem xi_232_1565 : am_do xs 232 1565 l st M = am_ldi (am_lg l 5) 1567 l st M := rfl
theorem xi_232_1567 : am_do xs 232 1567 l st M = am_nx 1568 l (.int 1 :: st) M := rfl
theorem xi_232_1568 : am_do xs 232 1568 l st M = am_i2 st fun x y r => am_nx 1569 l (.int (x + y) :: r) M := rfl
theorem xi_232_1569 : am_do xs 232 1569 l st M = am_ial xs st 1570 l M := rfl
theorem xi_232_1570 : am_do xs 232 1570 l st M = am_inv 1 2 (.retAddr 8) st M := rfl
theorem xt_232_1570 : am_to 232 1570 = 148 := rfl
theorem xi_232_1573 : am_do xs 232 1573 l st M = am_i1 st fun x r => am_nx 1575 (am_s1 l 7 (.int x)) r M := rfl
theorem xi_232_1575 : am_do xs 232 1575 l st M = am_lda (am_lg l 2) 1576 l st M := rfl
theorem xi_232_1576 : am_do xs 232 1576 l st M = am_inv 1 1 (.retAddr 8) st M := rfl
theorem xt_232_1576 : am_to 232 1576 = 104 := rfl
theorem xi_232_1579 : am_do xs 232 1579 l st M = am_ldi (am_lg l 6) 1581 l st M := rfl
theorem xi_232_1581 : am_do xs 232 1581 l st M = am_i2 st fun x y r => am_nx (if x = y then 1586 else 1584) l r M := rfl
theorem xi_232_1584 : am_do xs 232 1584 l st M = am_nx 1585 l (.int 0 :: st) M := rfl
theorem xi_232_1585 : am_do xs 232 1585 l st M = am_rti st 2 := rfl
theorem xi_232_1586 : am_do xs 232 1586 l st M = am_ldi (am_lg l 6) 1588 l st M := rfl
theorem xi_232_1588 : am_do xs 232 1588 l st M = am_i1 st fun x r => am_nx (if ¬ x = 0 then 1603 else 1591) l r M := rfl
theorem xi_232_1591 : am_do xs 232 1591 l st M = am_lda (am_lg l 3) 1592 l st M := rfl
theorem xi_232_1592 : am_do xs 232 1592 l st M = am_nx 1593 l (.int 0 :: st) M := rfl
theorem xi_232_1593 : am_do xs 232 1593 l st M = am_ia st fun i o r => (am_aj (am_f M o) i).bind fun x => am_nx 1594 l (.long x :: r) M := rfl
theorem xi_232_1594 : am_do xs 232 1594 l st M = am_ldi (am_lg l 7) 1596 l st M := rfl
theorem xi_232_1596 : am_do xs 232 1596 l st M = am_i1 st fun x r => am_nx 1597 l (.long x.toInt64 :: r) M := rfl
theorem xi_232_1597 : am_do xs 232 1597 l st M = am_j2 st fun x y r => am_nx 1598 l (.int (lg_cmp x y) :: r) M := rfl
theorem xi_232_1598 : am_do xs 232 1598 l st M = am_i1 st fun x r => am_nx (if x = 0 then 1603 else 1601) l r M := rfl
theorem xi_232_1601 : am_do xs 232 1601 l st M = am_nx 1602 l (.int 0 :: st) M := rfl
theorem xi_232_1602 : am_do xs 232 1602 l st M = am_rti st 2 := rfl
theorem xi_232_1603 : am_do xs 232 1603 l st M = am_nx 3089 l st M := rfl
theorem xi_232_1606 : am_do xs 232 1606 l st M = am_lda (am_lg l 1) 1607 l st M := rfl
theorem xi_232_1607 : am_do xs 232 1607 l st M = am_lda (am_lg l 0) 1608 l st M := rfl
theorem xi_232_1608 : am_do xs 232 1608 l st M = am_ldi (am_lg l 5) 1610 l st M := rfl
theorem xi_232_1610 : am_do xs 232 1610 l st M = am_nx 1611 l (.int 1 :: st) M := rfl
theorem xi_232_1611 : am_do xs 232 1611 l st M = am_i2 st fun x y r => am_nx 1612 l (.int (x + y) :: r) M := rfl
theorem xi_232_1612 : am_do xs 232 1612 l st M = am_ial xs st 1613 l M := rfl
theorem xi_232_1613 : am_do xs 232 1613 l st M = am_lda (am_lg l 3) 1614 l st M := rfl
theorem xi_232_1614 : am_do xs 232 1614 l st M = am_inv 0 3 (.retAddr 100) st M := rfl
theorem xt_232_1614 : am_to 232 1614 = 210 := rfl
theorem xi_232_1617 : am_do xs 232 1617 l st M = am_i1 st fun x r => am_nx 1619 (am_s1 l 6 (.int x)) r M := rfl
theorem xi_232_1619 : am_do xs 232 1619 l st M = am_lda (am_lg l 2) 1620 l st M := rfl
theorem xi_232_1620 : am_do xs 232 1620 l st M = am_lda (am_lg l 0) 1621 l st M := rfl
theorem xi_232_1621 : am_do xs 232 1621 l st M = am_ldi (am_lg l 5) 1623 l st M := rfl
theorem xi_232_1623 : am_do xs 232 1623 l st M = am_nx 1624 l (.int 1 :: st) M := rfl
theorem xi_232_1624 : am_do xs 232 1624 l st M = am_i2 st fun x y r => am_nx 1625 l (.int (x + y) :: r) M := rfl
theorem xi_232_1625 : am_do xs 232 1625 l st M = am_ial xs st 1626 l M := rfl
theorem xi_232_1626 : am_do xs 232 1626 l st M = am_inv 1 2 (.retAddr 8) st M := rfl
theorem xt_232_1626 : am_to 232 1626 = 149 := rfl
theorem xi_232_1629 : am_do xs 232 1629 l st M = am_i1 st fun x r => am_nx 1631 (am_s1 l 7 (.int x)) r M := rfl
theorem xi_232_1631 : am_do xs 232 1631 l st M = am_lda (am_lg l 2) 1632 l st M := rfl
theorem xi_232_1632 : am_do xs 232 1632 l st M = am_inv 1 1 (.retAddr 8) st M := rfl
theorem xt_232_1632 : am_to 232 1632 = 104 := rfl
theorem xi_232_1635 : am_do xs 232 1635 l st M = am_ldi (am_lg l 6) 1637 l st M := rfl
theorem xi_232_1637 : am_do xs 232 1637 l st M = am_i2 st fun x y r => am_nx (if x = y then 1642 else 1640) l r M := rfl
theorem xi_232_1640 : am_do xs 232 1640 l st M = am_nx 1641 l (.int 0 :: st) M := rfl
theorem xi_232_1641 : am_do xs 232 1641 l st M = am_rti st 2 := rfl
theorem xi_232_1642 : am_do xs 232 1642 l st M = am_ldi (am_lg l 6) 1644 l st M := rfl
theorem xi_232_1644 : am_do xs 232 1644 l st M = am_i1 st fun x r => am_nx (if ¬ x = 0 then 1659 else 1647) l r M := rfl
theorem xi_232_1647 : am_do xs 232 1647 l st M = am_lda (am_lg l 3) 1648 l st M := rfl
theorem xi_232_1648 : am_do xs 232 1648 l st M = am_nx 1649 l (.int 0 :: st) M := rfl
theorem xi_232_1649 : am_do xs 232 1649 l st M = am_ia st fun i o r => (am_aj (am_f M o) i).bind fun x => am_nx 1650 l (.long x :: r) M := rfl
theorem xi_232_1650 : am_do xs 232 1650 l st M = am_ldi (am_lg l 7) 1652 l st M := rfl
theorem xi_232_1652 : am_do xs 232 1652 l st M = am_i1 st fun x r => am_nx 1653 l (.long x.toInt64 :: r) M := rfl
theorem xi_232_1653 : am_do xs 232 1653 l st M = am_j2 st fun x y r => am_nx 1654 l (.int (lg_cmp x y) :: r) M := rfl
theorem xi_232_1654 : am_do xs 232 1654 l st M = am_i1 st fun x r => am_nx (if x = 0 then 1659 else 1657) l r M := rfl
theorem xi_232_1657 : am_do xs 232 1657 l st M = am_nx 1658 l (.int 0 :: st) M := rfl
theorem xi_232_1658 : am_do xs 232 1658 l st M = am_rti st 2 := rfl
theorem xi_232_1659 : am_do xs 232 1659 l st M = am_nx 3089 l st M := rfl
theorem xi_232_1662 : am_do xs 232 1662 l st M = am_lda (am_lg l 1) 1663 l st M := rfl
theorem xi_232_1663 : am_do xs 232 1663 l st M = am_lda (am_lg l 0) 1664 l st M := rfl
theorem xi_232_1664 : am_do xs 232 1664 l st M = am_ldi (am_lg l 5) 1666 l st M := rfl
theorem xi_232_1666 : am_do xs 232 1666 l st M = am_nx 1667 l (.int 1 :: st) M := rfl
theorem xi_232_1667 : am_do xs 232 1667 l st M = am_i2 st fun x y r => am_nx 1668 l (.int (x + y) :: r) M := rfl
theorem xi_232_1668 : am_do xs 232 1668 l st M = am_ial xs st 1669 l M := rfl
theorem xi_232_1669 : am_do xs 232 1669 l st M = am_lda (am_lg l 0) 1670 l st M := rfl
theorem xi_232_1670 : am_do xs 232 1670 l st M = am_ldi (am_lg l 5) 1672 l st M := rfl
theorem xi_232_1672 : am_do xs 232 1672 l st M = am_nx 1673 l (.int 2 :: st) M := rfl
theorem xi_232_1673 : am_do xs 232 1673 l st M = am_i2 st fun x y r => am_nx 1674 l (.int (x + y) :: r) M := rfl
theorem xi_232_1674 : am_do xs 232 1674 l st M = am_ial xs st 1675 l M := rfl
theorem xi_232_1675 : am_do xs 232 1675 l st M = am_lda (am_lg l 3) 1676 l st M := rfl
theorem xi_232_1676 : am_do xs 232 1676 l st M = am_inv 0 4 (.retAddr 100) st M := rfl
theorem xt_232_1676 : am_to 232 1676 = 211 := rfl
theorem xi_232_1679 : am_do xs 232 1679 l st M = am_i1 st fun x r => am_nx 1681 (am_s1 l 6 (.int x)) r M := rfl
theorem xi_232_1681 : am_do xs 232 1681 l st M = am_lda (am_lg l 2) 1682 l st M := rfl
theorem xi_232_1682 : am_do xs 232 1682 l st M = am_lda (am_lg l 0) 1683 l st M := rfl
theorem xi_232_1683 : am_do xs 232 1683 l st M = am_ldi (am_lg l 5) 1685 l st M := rfl
theorem xi_232_1685 : am_do xs 232 1685 l st M = am_nx 1686 l (.int 1 :: st) M := rfl
theorem xi_232_1686 : am_do xs 232 1686 l st M = am_i2 st fun x y r => am_nx 1687 l (.int (x + y) :: r) M := rfl
theorem xi_232_1687 : am_do xs 232 1687 l st M = am_ial xs st 1688 l M := rfl
theorem xi_232_1688 : am_do xs 232 1688 l st M = am_lda (am_lg l 0) 1689 l st M := rfl
theorem xi_232_1689 : am_do xs 232 1689 l st M = am_ldi (am_lg l 5) 1691 l st M := rfl
theorem xi_232_1691 : am_do xs 232 1691 l st M = am_nx 1692 l (.int 2 :: st) M := rfl
theorem xi_232_1692 : am_do xs 232 1692 l st M = am_i2 st fun x y r => am_nx 1693 l (.int (x + y) :: r) M := rfl
theorem xi_232_1693 : am_do xs 232 1693 l st M = am_ial xs st 1694 l M := rfl
theorem xi_232_1694 : am_do xs 232 1694 l st M = am_inv 1 3 (.retAddr 8) st M := rfl
theorem xt_232_1694 : am_to 232 1694 = 150 := rfl
theorem xi_232_1697 : am_do xs 232 1697 l st M = am_i1 st fun x r => am_nx 1699 (am_s1 l 7 (.int x)) r M := rfl
theorem xi_232_1699 : am_do xs 232 1699 l st M = am_lda (am_lg l 2) 1700 l st M := rfl
theorem xi_232_1700 : am_do xs 232 1700 l st M = am_inv 1 1 (.retAddr 8) st M := rfl
theorem xt_232_1700 : am_to 232 1700 = 104 := rfl
theorem xi_232_1703 : am_do xs 232 1703 l st M = am_ldi (am_lg l 6) 1705 l st M := rfl
theorem xi_232_1705 : am_do xs 232 1705 l st M = am_i2 st fun x y r => am_nx (if x = y then 1710 else 1708) l r M := rfl
theorem xi_232_1708 : am_do xs 232 1708 l st M = am_nx 1709 l (.int 0 :: st) M := rfl
theorem xi_232_1709 : am_do xs 232 1709 l st M = am_rti st 2 := rfl
theorem xi_232_1710 : am_do xs 232 1710 l st M = am_ldi (am_lg l 6) 1712 l st M := rfl
theorem xi_232_1712 : am_do xs 232 1712 l st M = am_i1 st fun x r => am_nx (if ¬ x = 0 then 1727 else 1715) l r M := rfl
theorem xi_232_1715 : am_do xs 232 1715 l st M = am_lda (am_lg l 3) 1716 l st M := rfl
theorem xi_232_1716 : am_do xs 232 1716 l st M = am_nx 1717 l (.int 0 :: st) M := rfl
theorem xi_232_1717 : am_do xs 232 1717 l st M = am_ia st fun i o r => (am_aj (am_f M o) i).bind fun x => am_nx 1718 l (.long x :: r) M := rfl
theorem xi_232_1718 : am_do xs 232 1718 l st M = am_ldi (am_lg l 7) 1720 l st M := rfl
theorem xi_232_1720 : am_do xs 232 1720 l st M = am_i1 st fun x r => am_nx 1721 l (.long x.toInt64 :: r) M := rfl
theorem xi_232_1721 : am_do xs 232 1721 l st M = am_j2 st fun x y r => am_nx 1722 l (.int (lg_cmp x y) :: r) M := rfl
theorem xi_232_1722 : am_do xs 232 1722 l st M = am_i1 st fun x r => am_nx (if x = 0 then 1727 else 1725) l r M := rfl
theorem xi_232_1725 : am_do xs 232 1725 l st M = am_nx 1726 l (.int 0 :: st) M := rfl
theorem xi_232_1726 : am_do xs 232 1726 l st M = am_rti st 2 := rfl
theorem xi_232_1727 : am_do xs 232 1727 l st M = am_nx 3089 l st M := rfl
theorem xi_232_1730 : am_do xs 232 1730 l st M = am_lda (am_lg l 1) 1731 l st M := rfl
theorem xi_232_1731 : am_do xs 232 1731 l st M = am_lda (am_lg l 0) 1732 l st M := rfl
theorem xi_232_1732 : am_do xs 232 1732 l st M = am_ldi (am_lg l 5) 1734 l st M := rfl
theorem xi_232_1734 : am_do xs 232 1734 l st M = am_nx 1735 l (.int 1 :: st) M := rfl
theorem xi_232_1735 : am_do xs 232 1735 l st M = am_i2 st fun x y r => am_nx 1736 l (.int (x + y) :: r) M := rfl
theorem xi_232_1736 : am_do xs 232 1736 l st M = am_ial xs st 1737 l M := rfl
theorem xi_232_1737 : am_do xs 232 1737 l st M = am_lda (am_lg l 3) 1738 l st M := rfl
theorem xi_232_1738 : am_do xs 232 1738 l st M = am_inv 0 3 (.retAddr 100) st M := rfl
theorem xt_232_1738 : am_to 232 1738 = 212 := rfl
theorem xi_232_1741 : am_do xs 232 1741 l st M = am_i1 st fun x r => am_nx 1743 (am_s1 l 6 (.int x)) r M := rfl
theorem xi_232_1743 : am_do xs 232 1743 l st M = am_lda (am_lg l 2) 1744 l st M := rfl
theorem xi_232_1744 : am_do xs 232 1744 l st M = am_lda (am_lg l 0) 1745 l st M := rfl
theorem xi_232_1745 : am_do xs 232 1745 l st M = am_ldi (am_lg l 5) 1747 l st M := rfl
theorem xi_232_1747 : am_do xs 232 1747 l st M = am_nx 1748 l (.int 1 :: st) M := rfl
theorem xi_232_1748 : am_do xs 232 1748 l st M = am_i2 st fun x y r => am_nx 1749 l (.int (x + y) :: r) M := rfl
theorem xi_232_1749 : am_do xs 232 1749 l st M = am_ial xs st 1750 l M := rfl
theorem xi_232_1750 : am_do xs 232 1750 l st M = am_inv 1 2 (.retAddr 8) st M := rfl
theorem xt_232_1750 : am_to 232 1750 = 151 := rfl
theorem xi_232_1753 : am_do xs 232 1753 l st M = am_j1 st fun x r => am_nx 1755 (am_s2 l 7 (.long x)) r M := rfl
theorem xi_232_1755 : am_do xs 232 1755 l st M = am_lda (am_lg l 2) 1756 l st M := rfl
theorem xi_232_1756 : am_do xs 232 1756 l st M = am_inv 1 1 (.retAddr 8) st M := rfl
theorem xt_232_1756 : am_to 232 1756 = 104 := rfl
theorem xi_232_1759 : am_do xs 232 1759 l st M = am_ldi (am_lg l 6) 1761 l st M := rfl
theorem xi_232_1761 : am_do xs 232 1761 l st M = am_i2 st fun x y r => am_nx (if x = y then 1766 else 1764) l r M := rfl
theorem xi_232_1764 : am_do xs 232 1764 l st M = am_nx 1765 l (.int 0 :: st) M := rfl
theorem xi_232_1765 : am_do xs 232 1765 l st M = am_rti st 2 := rfl
theorem xi_232_1766 : am_do xs 232 1766 l st M = am_ldi (am_lg l 6) 1768 l st M := rfl
theorem xi_232_1768 : am_do xs 232 1768 l st M = am_i1 st fun x r => am_nx (if ¬ x = 0 then 1782 else 1771) l r M := rfl
theorem xi_232_1771 : am_do xs 232 1771 l st M = am_lda (am_lg l 3) 1772 l st M := rfl
theorem xi_232_1772 : am_do xs 232 1772 l st M = am_nx 1773 l (.int 0 :: st) M := rfl
theorem xi_232_1773 : am_do xs 232 1773 l st M = am_ia st fun i o r => (am_aj (am_f M o) i).bind fun x => am_nx 1774 l (.long x :: r) M := rfl
theorem xi_232_1774 : am_do xs 232 1774 l st M = am_ldj (am_lg l 7) 1776 l st M := rfl
theorem xi_232_1776 : am_do xs 232 1776 l st M = am_j2 st fun x y r => am_nx 1777 l (.int (lg_cmp x y) :: r) M := rfl
theorem xi_232_1777 : am_do xs 232 1777 l st M = am_i1 st fun x r => am_nx (if x = 0 then 1782 else 1780) l r M := rfl
theorem xi_232_1780 : am_do xs 232 1780 l st M = am_nx 1781 l (.int 0 :: st) M := rfl
theorem xi_232_1781 : am_do xs 232 1781 l st M = am_rti st 2 := rfl
theorem xi_232_1782 : am_do xs 232 1782 l st M = am_nx 3089 l st M := rfl
theorem xi_232_1785 : am_do xs 232 1785 l st M = am_lda (am_lg l 1) 1786 l st M := rfl
theorem xi_232_1786 : am_do xs 232 1786 l st M = am_inv 1 1 (.retAddr 7) st M := rfl
theorem xt_232_1786 : am_to 232 1786 = 59 := rfl
theorem xi_232_1789 : am_do xs 232 1789 l st M = am_lda (am_lg l 2) 1790 l st M := rfl
theorem xi_232_1790 : am_do xs 232 1790 l st M = am_inv 1 1 (.retAddr 8) st M := rfl
theorem xt_232_1790 : am_to 232 1790 = 152 := rfl
theorem xi_232_1793 : am_do xs 232 1793 l st M = am_i2 st fun x y r => am_nx (if x = y then 3089 else 1796) l r M := rfl
theorem xi_232_1796 : am_do xs 232 1796 l st M = am_nx 1797 l (.int 0 :: st) M := rfl
theorem xi_232_1797 : am_do xs 232 1797 l st M = am_rti st 2 := rfl
theorem xi_232_1798 : am_do xs 232 1798 l st M = am_lda (am_lg l 1) 1799 l st M := rfl
theorem xi_232_1799 : am_do xs 232 1799 l st M = am_lda (am_lg l 0) 1800 l st M := rfl
theorem xi_232_1800 : am_do xs 232 1800 l st M = am_ldi (am_lg l 5) 1802 l st M := rfl
theorem xi_232_1802 : am_do xs 232 1802 l st M = am_nx 1803 l (.int 1 :: st) M := rfl
theorem xi_232_1803 : am_do xs 232 1803 l st M = am_i2 st fun x y r => am_nx 1804 l (.int (x + y) :: r) M := rfl
theorem xi_232_1804 : am_do xs 232 1804 l st M = am_ial xs st 1805 l M := rfl
theorem xi_232_1805 : am_do xs 232 1805 l st M = am_i1 st fun x r => am_nx 1806 l (.long x.toInt64 :: r) M := rfl
theorem xi_232_1806 : am_do xs 232 1806 l st M = am_nx 1808 l (.int 32 :: st) M := rfl
theorem xi_232_1808 : am_do xs 232 1808 l st M = am_ij st fun x y r => am_nx 1809 l (.long (x <<< (y.toInt64 &&& 63)) :: r) M := rfl
theorem xi_232_1809 : am_do xs 232 1809 l st M = am_lda (am_lg l 0) 1810 l st M := rfl
theorem xi_232_1810 : am_do xs 232 1810 l st M = am_ldi (am_lg l 5) 1812 l st M := rfl
theorem xi_232_1812 : am_do xs 232 1812 l st M = am_nx 1813 l (.int 2 :: st) M := rfl
theorem xi_232_1813 : am_do xs 232 1813 l st M = am_i2 st fun x y r => am_nx 1814 l (.int (x + y) :: r) M := rfl
theorem xi_232_1814 : am_do xs 232 1814 l st M = am_ial xs st 1815 l M := rfl
theorem xi_232_1815 : am_do xs 232 1815 l st M = am_i1 st fun x r => am_nx 1816 l (.long x.toInt64 :: r) M := rfl
theorem xi_232_1816 : am_do xs 232 1816 l st M = am_nx 1819 l (.long 4294967295 :: st) M := rfl
theorem xi_232_1819 : am_do xs 232 1819 l st M = am_j2 st fun x y r => am_nx 1820 l (.long (x &&& y) :: r) M := rfl
theorem xi_232_1820 : am_do xs 232 1820 l st M = am_j2 st fun x y r => am_nx 1821 l (.long (x ||| y) :: r) M := rfl
theorem xi_232_1821 : am_do xs 232 1821 l st M = am_lda (am_lg l 3) 1822 l st M := rfl
theorem xi_232_1822 : am_do xs 232 1822 l st M = am_inv 0 3 (.retAddr 100) st M := rfl
theorem xt_232_1822 : am_to 232 1822 = 213 := rfl
theorem xi_232_1825 : am_do xs 232 1825 l st M = am_i1 st fun x r => am_nx 1827 (am_s1 l 6 (.int x)) r M := rfl
theorem xi_232_1827 : am_do xs 232 1827 l st M = am_lda (am_lg l 2) 1828 l st M := rfl
theorem xi_232_1828 : am_do xs 232 1828 l st M = am_lda (am_lg l 0) 1829 l st M := rfl
theorem xi_232_1829 : am_do xs 232 1829 l st M = am_ldi (am_lg l 5) 1831 l st M := rfl
theorem xi_232_1831 : am_do xs 232 1831 l st M = am_nx 1832 l (.int 1 :: st) M := rfl
theorem xi_232_1832 : am_do xs 232 1832 l st M = am_i2 st fun x y r => am_nx 1833 l (.int (x + y) :: r) M := rfl
theorem xi_232_1833 : am_do xs 232 1833 l st M = am_ial xs st 1834 l M := rfl
theorem xi_232_1834 : am_do xs 232 1834 l st M = am_i1 st fun x r => am_nx 1835 l (.long x.toInt64 :: r) M := rfl
theorem xi_232_1835 : am_do xs 232 1835 l st M = am_nx 1837 l (.int 32 :: st) M := rfl
theorem xi_232_1837 : am_do xs 232 1837 l st M = am_ij st fun x y r => am_nx 1838 l (.long (x <<< (y.toInt64 &&& 63)) :: r) M := rfl
theorem xi_232_1838 : am_do xs 232 1838 l st M = am_lda (am_lg l 0) 1839 l st M := rfl
theorem xi_232_1839 : am_do xs 232 1839 l st M = am_ldi (am_lg l 5) 1841 l st M := rfl
theorem xi_232_1841 : am_do xs 232 1841 l st M = am_nx 1842 l (.int 2 :: st) M := rfl
theorem xi_232_1842 : am_do xs 232 1842 l st M = am_i2 st fun x y r => am_nx 1843 l (.int (x + y) :: r) M := rfl
theorem xi_232_1843 : am_do xs 232 1843 l st M = am_ial xs st 1844 l M := rfl
theorem xi_232_1844 : am_do xs 232 1844 l st M = am_i1 st fun x r => am_nx 1845 l (.long x.toInt64 :: r) M := rfl
theorem xi_232_1845 : am_do xs 232 1845 l st M = am_nx 1848 l (.long 4294967295 :: st) M := rfl
theorem xi_232_1848 : am_do xs 232 1848 l st M = am_j2 st fun x y r => am_nx 1849 l (.long (x &&& y) :: r) M := rfl
theorem xi_232_1849 : am_do xs 232 1849 l st M = am_j2 st fun x y r => am_nx 1850 l (.long (x ||| y) :: r) M := rfl
theorem xi_232_1850 : am_do xs 232 1850 l st M = am_inv 1 2 (.retAddr 8) st M := rfl
theorem xt_232_1850 : am_to 232 1850 = 153 := rfl
theorem xi_232_1853 : am_do xs 232 1853 l st M = am_j1 st fun x r => am_nx 1855 (am_s2 l 7 (.long x)) r M := rfl
theorem xi_232_1855 : am_do xs 232 1855 l st M = am_lda (am_lg l 2) 1856 l st M := rfl
theorem xi_232_1856 : am_do xs 232 1856 l st M = am_inv 1 1 (.retAddr 8) st M := rfl
theorem xt_232_1856 : am_to 232 1856 = 104 := rfl
theorem xi_232_1859 : am_do xs 232 1859 l st M = am_ldi (am_lg l 6) 1861 l st M := rfl
theorem xi_232_1861 : am_do xs 232 1861 l st M = am_i2 st fun x y r => am_nx (if x = y then 1866 else 1864) l r M := rfl
theorem xi_232_1864 : am_do xs 232 1864 l st M = am_nx 1865 l (.int 0 :: st) M := rfl
theorem xi_232_1865 : am_do xs 232 1865 l st M = am_rti st 2 := rfl
theorem xi_232_1866 : am_do xs 232 1866 l st M = am_ldi (am_lg l 6) 1868 l st M := rfl
theorem xi_232_1868 : am_do xs 232 1868 l st M = am_i1 st fun x r => am_nx (if ¬ x = 0 then 1882 else 1871) l r M := rfl
theorem xi_232_1871 : am_do xs 232 1871 l st M = am_lda (am_lg l 3) 1872 l st M := rfl
theorem xi_232_1872 : am_do xs 232 1872 l st M = am_nx 1873 l (.int 0 :: st) M := rfl
theorem xi_232_1873 : am_do xs 232 1873 l st M = am_ia st fun i o r => (am_aj (am_f M o) i).bind fun x => am_nx 1874 l (.long x :: r) M := rfl
theorem xi_232_1874 : am_do xs 232 1874 l st M = am_ldj (am_lg l 7) 1876 l st M := rfl
theorem xi_232_1876 : am_do xs 232 1876 l st M = am_j2 st fun x y r => am_nx 1877 l (.int (lg_cmp x y) :: r) M := rfl
theorem xi_232_1877 : am_do xs 232 1877 l st M = am_i1 st fun x r => am_nx (if x = 0 then 1882 else 1880) l r M := rfl
theorem xi_232_1880 : am_do xs 232 1880 l st M = am_nx 1881 l (.int 0 :: st) M := rfl
theorem xi_232_1881 : am_do xs 232 1881 l st M = am_rti st 2 := rfl
theorem xi_232_1882 : am_do xs 232 1882 l st M = am_nx 3089 l st M := rfl
theorem xi_232_1885 : am_do xs 232 1885 l st M = am_lda (am_lg l 1) 1886 l st M := rfl
theorem xi_232_1886 : am_do xs 232 1886 l st M = am_lda (am_lg l 0) 1887 l st M := rfl
theorem xi_232_1887 : am_do xs 232 1887 l st M = am_ldi (am_lg l 5) 1889 l st M := rfl
theorem xi_232_1889 : am_do xs 232 1889 l st M = am_nx 1890 l (.int 1 :: st) M := rfl
theorem xi_232_1890 : am_do xs 232 1890 l st M = am_i2 st fun x y r => am_nx 1891 l (.int (x + y) :: r) M := rfl
theorem xi_232_1891 : am_do xs 232 1891 l st M = am_ial xs st 1892 l M := rfl
theorem xi_232_1892 : am_do xs 232 1892 l st M = am_lda (am_lg l 0) 1893 l st M := rfl
theorem xi_232_1893 : am_do xs 232 1893 l st M = am_ldi (am_lg l 5) 1895 l st M := rfl
theorem xi_232_1895 : am_do xs 232 1895 l st M = am_nx 1896 l (.int 2 :: st) M := rfl
theorem xi_232_1896 : am_do xs 232 1896 l st M = am_i2 st fun x y r => am_nx 1897 l (.int (x + y) :: r) M := rfl
theorem xi_232_1897 : am_do xs 232 1897 l st M = am_ial xs st 1898 l M := rfl
theorem xi_232_1898 : am_do xs 232 1898 l st M = am_lda (am_lg l 3) 1899 l st M := rfl
theorem xi_232_1899 : am_do xs 232 1899 l st M = am_inv 0 4 (.retAddr 100) st M := rfl
theorem xt_232_1899 : am_to 232 1899 = 214 := rfl
theorem xi_232_1902 : am_do xs 232 1902 l st M = am_i1 st fun x r => am_nx 1904 (am_s1 l 6 (.int x)) r M := rfl
theorem xi_232_1904 : am_do xs 232 1904 l st M = am_lda (am_lg l 2) 1905 l st M := rfl
theorem xi_232_1905 : am_do xs 232 1905 l st M = am_lda (am_lg l 0) 1906 l st M := rfl
theorem xi_232_1906 : am_do xs 232 1906 l st M = am_ldi (am_lg l 5) 1908 l st M := rfl
theorem xi_232_1908 : am_do xs 232 1908 l st M = am_nx 1909 l (.int 1 :: st) M := rfl
theorem xi_232_1909 : am_do xs 232 1909 l st M = am_i2 st fun x y r => am_nx 1910 l (.int (x + y) :: r) M := rfl
theorem xi_232_1910 : am_do xs 232 1910 l st M = am_ial xs st 1911 l M := rfl
theorem xi_232_1911 : am_do xs 232 1911 l st M = am_lda (am_lg l 0) 1912 l st M := rfl
theorem xi_232_1912 : am_do xs 232 1912 l st M = am_ldi (am_lg l 5) 1914 l st M := rfl
theorem xi_232_1914 : am_do xs 232 1914 l st M = am_nx 1915 l (.int 2 :: st) M := rfl
theorem xi_232_1915 : am_do xs 232 1915 l st M = am_i2 st fun x y r => am_nx 1916 l (.int (x + y) :: r) M := rfl
theorem xi_232_1916 : am_do xs 232 1916 l st M = am_ial xs st 1917 l M := rfl
theorem xi_232_1917 : am_do xs 232 1917 l st M = am_inv 1 3 (.retAddr 8) st M := rfl
theorem xt_232_1917 : am_to 232 1917 = 158 := rfl
theorem xi_232_1920 : am_do xs 232 1920 l st M = am_j1 st fun x r => am_nx 1922 (am_s2 l 7 (.long x)) r M := rfl
theorem xi_232_1922 : am_do xs 232 1922 l st M = am_lda (am_lg l 2) 1923 l st M := rfl
theorem xi_232_1923 : am_do xs 232 1923 l st M = am_inv 1 1 (.retAddr 8) st M := rfl
theorem xt_232_1923 : am_to 232 1923 = 104 := rfl
theorem xi_232_1926 : am_do xs 232 1926 l st M = am_ldi (am_lg l 6) 1928 l st M := rfl
theorem xi_232_1928 : am_do xs 232 1928 l st M = am_i2 st fun x y r => am_nx (if x = y then 1933 else 1931) l r M := rfl
theorem xi_232_1931 : am_do xs 232 1931 l st M = am_nx 1932 l (.int 0 :: st) M := rfl
theorem xi_232_1932 : am_do xs 232 1932 l st M = am_rti st 2 := rfl
theorem xi_232_1933 : am_do xs 232 1933 l st M = am_ldi (am_lg l 6) 1935 l st M := rfl
theorem xi_232_1935 : am_do xs 232 1935 l st M = am_i1 st fun x r => am_nx (if ¬ x = 0 then 1949 else 1938) l r M := rfl
theorem xi_232_1938 : am_do xs 232 1938 l st M = am_lda (am_lg l 3) 1939 l st M := rfl
theorem xi_232_1939 : am_do xs 232 1939 l st M = am_nx 1940 l (.int 0 :: st) M := rfl
theorem xi_232_1940 : am_do xs 232 1940 l st M = am_ia st fun i o r => (am_aj (am_f M o) i).bind fun x => am_nx 1941 l (.long x :: r) M := rfl
theorem xi_232_1941 : am_do xs 232 1941 l st M = am_ldj (am_lg l 7) 1943 l st M := rfl
theorem xi_232_1943 : am_do xs 232 1943 l st M = am_j2 st fun x y r => am_nx 1944 l (.int (lg_cmp x y) :: r) M := rfl
theorem xi_232_1944 : am_do xs 232 1944 l st M = am_i1 st fun x r => am_nx (if x = 0 then 1949 else 1947) l r M := rfl
theorem xi_232_1947 : am_do xs 232 1947 l st M = am_nx 1948 l (.int 0 :: st) M := rfl
theorem xi_232_1948 : am_do xs 232 1948 l st M = am_rti st 2 := rfl
theorem xi_232_1949 : am_do xs 232 1949 l st M = am_nx 3089 l st M := rfl
theorem xi_232_1952 : am_do xs 232 1952 l st M = am_lda (am_lg l 1) 1953 l st M := rfl
theorem xi_232_1953 : am_do xs 232 1953 l st M = am_lda (am_lg l 0) 1954 l st M := rfl
theorem xi_232_1954 : am_do xs 232 1954 l st M = am_ldi (am_lg l 5) 1956 l st M := rfl
theorem xi_232_1956 : am_do xs 232 1956 l st M = am_nx 1957 l (.int 1 :: st) M := rfl
theorem xi_232_1957 : am_do xs 232 1957 l st M = am_i2 st fun x y r => am_nx 1958 l (.int (x + y) :: r) M := rfl
theorem xi_232_1958 : am_do xs 232 1958 l st M = am_ial xs st 1959 l M := rfl
theorem xi_232_1959 : am_do xs 232 1959 l st M = am_lda (am_lg l 3) 1960 l st M := rfl
theorem xi_232_1960 : am_do xs 232 1960 l st M = am_inv 0 3 (.retAddr 100) st M := rfl
theorem xt_232_1960 : am_to 232 1960 = 215 := rfl
theorem xi_232_1963 : am_do xs 232 1963 l st M = am_i1 st fun x r => am_nx 1965 (am_s1 l 6 (.int x)) r M := rfl
theorem xi_232_1965 : am_do xs 232 1965 l st M = am_lda (am_lg l 2) 1966 l st M := rfl
theorem xi_232_1966 : am_do xs 232 1966 l st M = am_lda (am_lg l 0) 1967 l st M := rfl
theorem xi_232_1967 : am_do xs 232 1967 l st M = am_ldi (am_lg l 5) 1969 l st M := rfl
theorem xi_232_1969 : am_do xs 232 1969 l st M = am_nx 1970 l (.int 1 :: st) M := rfl
theorem xi_232_1970 : am_do xs 232 1970 l st M = am_i2 st fun x y r => am_nx 1971 l (.int (x + y) :: r) M := rfl
theorem xi_232_1971 : am_do xs 232 1971 l st M = am_ial xs st 1972 l M := rfl
theorem xi_232_1972 : am_do xs 232 1972 l st M = am_inv 1 2 (.retAddr 8) st M := rfl
theorem xt_232_1972 : am_to 232 1972 = 159 := rfl
theorem xi_232_1975 : am_do xs 232 1975 l st M = am_j1 st fun x r => am_nx 1977 (am_s2 l 7 (.long x)) r M := rfl
theorem xi_232_1977 : am_do xs 232 1977 l st M = am_lda (am_lg l 2) 1978 l st M := rfl
theorem xi_232_1978 : am_do xs 232 1978 l st M = am_inv 1 1 (.retAddr 8) st M := rfl
theorem xt_232_1978 : am_to 232 1978 = 104 := rfl
theorem xi_232_1981 : am_do xs 232 1981 l st M = am_ldi (am_lg l 6) 1983 l st M := rfl
theorem xi_232_1983 : am_do xs 232 1983 l st M = am_i2 st fun x y r => am_nx (if x = y then 1988 else 1986) l r M := rfl
theorem xi_232_1986 : am_do xs 232 1986 l st M = am_nx 1987 l (.int 0 :: st) M := rfl
theorem xi_232_1987 : am_do xs 232 1987 l st M = am_rti st 2 := rfl
theorem xi_232_1988 : am_do xs 232 1988 l st M = am_ldi (am_lg l 6) 1990 l st M := rfl
theorem xi_232_1990 : am_do xs 232 1990 l st M = am_i1 st fun x r => am_nx (if ¬ x = 0 then 2004 else 1993) l r M := rfl
theorem xi_232_1993 : am_do xs 232 1993 l st M = am_lda (am_lg l 3) 1994 l st M := rfl
theorem xi_232_1994 : am_do xs 232 1994 l st M = am_nx 1995 l (.int 0 :: st) M := rfl
theorem xi_232_1995 : am_do xs 232 1995 l st M = am_ia st fun i o r => (am_aj (am_f M o) i).bind fun x => am_nx 1996 l (.long x :: r) M := rfl
theorem xi_232_1996 : am_do xs 232 1996 l st M = am_ldj (am_lg l 7) 1998 l st M := rfl
theorem xi_232_1998 : am_do xs 232 1998 l st M = am_j2 st fun x y r => am_nx 1999 l (.int (lg_cmp x y) :: r) M := rfl
theorem xi_232_1999 : am_do xs 232 1999 l st M = am_i1 st fun x r => am_nx (if x = 0 then 2004 else 2002) l r M := rfl
theorem xi_232_2002 : am_do xs 232 2002 l st M = am_nx 2003 l (.int 0 :: st) M := rfl
theorem xi_232_2003 : am_do xs 232 2003 l st M = am_rti st 2 := rfl
theorem xi_232_2004 : am_do xs 232 2004 l st M = am_nx 3089 l st M := rfl
theorem xi_232_2007 : am_do xs 232 2007 l st M = am_lda (am_lg l 1) 2008 l st M := rfl
theorem xi_232_2008 : am_do xs 232 2008 l st M = am_lda (am_lg l 0) 2009 l st M := rfl
theorem xi_232_2009 : am_do xs 232 2009 l st M = am_ldi (am_lg l 5) 2011 l st M := rfl
theorem xi_232_2011 : am_do xs 232 2011 l st M = am_nx 2012 l (.int 1 :: st) M := rfl
theorem xi_232_2012 : am_do xs 232 2012 l st M = am_i2 st fun x y r => am_nx 2013 l (.int (x + y) :: r) M := rfl
theorem xi_232_2013 : am_do xs 232 2013 l st M = am_ial xs st 2014 l M := rfl
theorem xi_232_2014 : am_do xs 232 2014 l st M = am_lda (am_lg l 0) 2015 l st M := rfl
theorem xi_232_2015 : am_do xs 232 2015 l st M = am_ldi (am_lg l 5) 2017 l st M := rfl
theorem xi_232_2017 : am_do xs 232 2017 l st M = am_nx 2018 l (.int 2 :: st) M := rfl
theorem xi_232_2018 : am_do xs 232 2018 l st M = am_i2 st fun x y r => am_nx 2019 l (.int (x + y) :: r) M := rfl
theorem xi_232_2019 : am_do xs 232 2019 l st M = am_ial xs st 2020 l M := rfl
theorem xi_232_2020 : am_do xs 232 2020 l st M = am_lda (am_lg l 3) 2021 l st M := rfl
theorem xi_232_2021 : am_do xs 232 2021 l st M = am_inv 0 4 (.retAddr 100) st M := rfl
theorem xt_232_2021 : am_to 232 2021 = 216 := rfl
theorem xi_232_2024 : am_do xs 232 2024 l st M = am_i1 st fun x r => am_nx 2026 (am_s1 l 6 (.int x)) r M := rfl
theorem xi_232_2026 : am_do xs 232 2026 l st M = am_lda (am_lg l 2) 2027 l st M := rfl
theorem xi_232_2027 : am_do xs 232 2027 l st M = am_lda (am_lg l 0) 2028 l st M := rfl
theorem xi_232_2028 : am_do xs 232 2028 l st M = am_ldi (am_lg l 5) 2030 l st M := rfl
theorem xi_232_2030 : am_do xs 232 2030 l st M = am_nx 2031 l (.int 1 :: st) M := rfl
theorem xi_232_2031 : am_do xs 232 2031 l st M = am_i2 st fun x y r => am_nx 2032 l (.int (x + y) :: r) M := rfl
theorem xi_232_2032 : am_do xs 232 2032 l st M = am_ial xs st 2033 l M := rfl
theorem xi_232_2033 : am_do xs 232 2033 l st M = am_lda (am_lg l 0) 2034 l st M := rfl
theorem xi_232_2034 : am_do xs 232 2034 l st M = am_ldi (am_lg l 5) 2036 l st M := rfl
theorem xi_232_2036 : am_do xs 232 2036 l st M = am_nx 2037 l (.int 2 :: st) M := rfl
theorem xi_232_2037 : am_do xs 232 2037 l st M = am_i2 st fun x y r => am_nx 2038 l (.int (x + y) :: r) M := rfl
theorem xi_232_2038 : am_do xs 232 2038 l st M = am_ial xs st 2039 l M := rfl
theorem xi_232_2039 : am_do xs 232 2039 l st M = am_inv 1 3 (.retAddr 8) st M := rfl
theorem xt_232_2039 : am_to 232 2039 = 162 := rfl
theorem xi_232_2042 : am_do xs 232 2042 l st M = am_j1 st fun x r => am_nx 2044 (am_s2 l 7 (.long x)) r M := rfl
theorem xi_232_2044 : am_do xs 232 2044 l st M = am_lda (am_lg l 2) 2045 l st M := rfl
theorem xi_232_2045 : am_do xs 232 2045 l st M = am_inv 1 1 (.retAddr 8) st M := rfl
theorem xt_232_2045 : am_to 232 2045 = 104 := rfl
theorem xi_232_2048 : am_do xs 232 2048 l st M = am_ldi (am_lg l 6) 2050 l st M := rfl
theorem xi_232_2050 : am_do xs 232 2050 l st M = am_i2 st fun x y r => am_nx (if x = y then 2055 else 2053) l r M := rfl
theorem xi_232_2053 : am_do xs 232 2053 l st M = am_nx 2054 l (.int 0 :: st) M := rfl
theorem xi_232_2054 : am_do xs 232 2054 l st M = am_rti st 2 := rfl
theorem xi_232_2055 : am_do xs 232 2055 l st M = am_ldi (am_lg l 6) 2057 l st M := rfl
theorem xi_232_2057 : am_do xs 232 2057 l st M = am_i1 st fun x r => am_nx (if ¬ x = 0 then 2071 else 2060) l r M := rfl
theorem xi_232_2060 : am_do xs 232 2060 l st M = am_lda (am_lg l 3) 2061 l st M := rfl
theorem xi_232_2061 : am_do xs 232 2061 l st M = am_nx 2062 l (.int 0 :: st) M := rfl
theorem xi_232_2062 : am_do xs 232 2062 l st M = am_ia st fun i o r => (am_aj (am_f M o) i).bind fun x => am_nx 2063 l (.long x :: r) M := rfl
theorem xi_232_2063 : am_do xs 232 2063 l st M = am_ldj (am_lg l 7) 2065 l st M := rfl
theorem xi_232_2065 : am_do xs 232 2065 l st M = am_j2 st fun x y r => am_nx 2066 l (.int (lg_cmp x y) :: r) M := rfl
theorem xi_232_2066 : am_do xs 232 2066 l st M = am_i1 st fun x r => am_nx (if x = 0 then 2071 else 2069) l r M := rfl
theorem xi_232_2069 : am_do xs 232 2069 l st M = am_nx 2070 l (.int 0 :: st) M := rfl
theorem xi_232_2070 : am_do xs 232 2070 l st M = am_rti st 2 := rfl
theorem xi_232_2071 : am_do xs 232 2071 l st M = am_nx 3089 l st M := rfl
theorem xi_232_2074 : am_do xs 232 2074 l st M = am_lda (am_lg l 1) 2075 l st M := rfl
theorem xi_232_2075 : am_do xs 232 2075 l st M = am_lda (am_lg l 0) 2076 l st M := rfl
theorem xi_232_2076 : am_do xs 232 2076 l st M = am_ldi (am_lg l 5) 2078 l st M := rfl
theorem xi_232_2078 : am_do xs 232 2078 l st M = am_nx 2079 l (.int 1 :: st) M := rfl
theorem xi_232_2079 : am_do xs 232 2079 l st M = am_i2 st fun x y r => am_nx 2080 l (.int (x + y) :: r) M := rfl
theorem xi_232_2080 : am_do xs 232 2080 l st M = am_ial xs st 2081 l M := rfl
theorem xi_232_2081 : am_do xs 232 2081 l st M = am_lda (am_lg l 0) 2082 l st M := rfl
theorem xi_232_2082 : am_do xs 232 2082 l st M = am_ldi (am_lg l 5) 2084 l st M := rfl
theorem xi_232_2084 : am_do xs 232 2084 l st M = am_nx 2085 l (.int 2 :: st) M := rfl
theorem xi_232_2085 : am_do xs 232 2085 l st M = am_i2 st fun x y r => am_nx 2086 l (.int (x + y) :: r) M := rfl
theorem xi_232_2086 : am_do xs 232 2086 l st M = am_ial xs st 2087 l M := rfl
theorem xi_232_2087 : am_do xs 232 2087 l st M = am_lda (am_lg l 3) 2088 l st M := rfl
theorem xi_232_2088 : am_do xs 232 2088 l st M = am_inv 0 4 (.retAddr 100) st M := rfl
theorem xt_232_2088 : am_to 232 2088 = 217 := rfl
theorem xi_232_2091 : am_do xs 232 2091 l st M = am_i1 st fun x r => am_nx 2093 (am_s1 l 6 (.int x)) r M := rfl
theorem xi_232_2093 : am_do xs 232 2093 l st M = am_lda (am_lg l 2) 2094 l st M := rfl
theorem xi_232_2094 : am_do xs 232 2094 l st M = am_lda (am_lg l 0) 2095 l st M := rfl
theorem xi_232_2095 : am_do xs 232 2095 l st M = am_ldi (am_lg l 5) 2097 l st M := rfl
theorem xi_232_2097 : am_do xs 232 2097 l st M = am_nx 2098 l (.int 1 :: st) M := rfl
theorem xi_232_2098 : am_do xs 232 2098 l st M = am_i2 st fun x y r => am_nx 2099 l (.int (x + y) :: r) M := rfl
theorem xi_232_2099 : am_do xs 232 2099 l st M = am_ial xs st 2100 l M := rfl
theorem xi_232_2100 : am_do xs 232 2100 l st M = am_lda (am_lg l 0) 2101 l st M := rfl
theorem xi_232_2101 : am_do xs 232 2101 l st M = am_ldi (am_lg l 5) 2103 l st M := rfl
theorem xi_232_2103 : am_do xs 232 2103 l st M = am_nx 2104 l (.int 2 :: st) M := rfl
theorem xi_232_2104 : am_do xs 232 2104 l st M = am_i2 st fun x y r => am_nx 2105 l (.int (x + y) :: r) M := rfl
theorem xi_232_2105 : am_do xs 232 2105 l st M = am_ial xs st 2106 l M := rfl
theorem xi_232_2106 : am_do xs 232 2106 l st M = am_inv 1 3 (.retAddr 8) st M := rfl
theorem xt_232_2106 : am_to 232 2106 = 163 := rfl
theorem xi_232_2109 : am_do xs 232 2109 l st M = am_i1 st fun x r => am_nx 2111 (am_s1 l 7 (.int x)) r M := rfl
theorem xi_232_2111 : am_do xs 232 2111 l st M = am_lda (am_lg l 2) 2112 l st M := rfl
theorem xi_232_2112 : am_do xs 232 2112 l st M = am_inv 1 1 (.retAddr 8) st M := rfl
theorem xt_232_2112 : am_to 232 2112 = 104 := rfl
theorem xi_232_2115 : am_do xs 232 2115 l st M = am_ldi (am_lg l 6) 2117 l st M := rfl
theorem xi_232_2117 : am_do xs 232 2117 l st M = am_i2 st fun x y r => am_nx (if x = y then 2122 else 2120) l r M := rfl
theorem xi_232_2120 : am_do xs 232 2120 l st M = am_nx 2121 l (.int 0 :: st) M := rfl
theorem xi_232_2121 : am_do xs 232 2121 l st M = am_rti st 2 := rfl
theorem xi_232_2122 : am_do xs 232 2122 l st M = am_ldi (am_lg l 6) 2124 l st M := rfl
theorem xi_232_2124 : am_do xs 232 2124 l st M = am_i1 st fun x r => am_nx (if ¬ x = 0 then 2146 else 2127) l r M := rfl
theorem xi_232_2127 : am_do xs 232 2127 l st M = am_lda (am_lg l 3) 2128 l st M := rfl
theorem xi_232_2128 : am_do xs 232 2128 l st M = am_nx 2129 l (.int 0 :: st) M := rfl
theorem xi_232_2129 : am_do xs 232 2129 l st M = am_ia st fun i o r => (am_aj (am_f M o) i).bind fun x => am_nx 2130 l (.long x :: r) M := rfl
theorem xi_232_2130 : am_do xs 232 2130 l st M = am_ldi (am_lg l 7) 2132 l st M := rfl
theorem xi_232_2132 : am_do xs 232 2132 l st M = am_i1 st fun x r => am_nx (if x = 0 then 2139 else 2135) l r M := rfl
theorem xi_232_2135 : am_do xs 232 2135 l st M = am_nx 2136 l (.long 1 :: st) M := rfl
theorem xi_232_2136 : am_do xs 232 2136 l st M = am_nx 2140 l st M := rfl
theorem xi_232_2139 : am_do xs 232 2139 l st M = am_nx 2140 l (.long 0 :: st) M := rfl
theorem xi_232_2140 : am_do xs 232 2140 l st M = am_j2 st fun x y r => am_nx 2141 l (.int (lg_cmp x y) :: r) M := rfl
theorem xi_232_2141 : am_do xs 232 2141 l st M = am_i1 st fun x r => am_nx (if x = 0 then 2146 else 2144) l r M := rfl
theorem xi_232_2144 : am_do xs 232 2144 l st M = am_nx 2145 l (.int 0 :: st) M := rfl
theorem xi_232_2145 : am_do xs 232 2145 l st M = am_rti st 2 := rfl
theorem xi_232_2146 : am_do xs 232 2146 l st M = am_nx 3089 l st M := rfl
theorem xi_232_2149 : am_do xs 232 2149 l st M = am_lda (am_lg l 1) 2150 l st M := rfl
theorem xi_232_2150 : am_do xs 232 2150 l st M = am_lda (am_lg l 0) 2151 l st M := rfl
theorem xi_232_2151 : am_do xs 232 2151 l st M = am_ldi (am_lg l 5) 2153 l st M := rfl
theorem xi_232_2153 : am_do xs 232 2153 l st M = am_nx 2154 l (.int 1 :: st) M := rfl
theorem xi_232_2154 : am_do xs 232 2154 l st M = am_i2 st fun x y r => am_nx 2155 l (.int (x + y) :: r) M := rfl
theorem xi_232_2155 : am_do xs 232 2155 l st M = am_ial xs st 2156 l M := rfl
theorem xi_232_2156 : am_do xs 232 2156 l st M = am_lda (am_lg l 0) 2157 l st M := rfl
theorem xi_232_2157 : am_do xs 232 2157 l st M = am_ldi (am_lg l 5) 2159 l st M := rfl
theorem xi_232_2159 : am_do xs 232 2159 l st M = am_nx 2160 l (.int 2 :: st) M := rfl
theorem xi_232_2160 : am_do xs 232 2160 l st M = am_i2 st fun x y r => am_nx 2161 l (.int (x + y) :: r) M := rfl
theorem xi_232_2161 : am_do xs 232 2161 l st M = am_ial xs st 2162 l M := rfl
theorem xi_232_2162 : am_do xs 232 2162 l st M = am_lda (am_lg l 3) 2163 l st M := rfl
theorem xi_232_2163 : am_do xs 232 2163 l st M = am_inv 0 4 (.retAddr 100) st M := rfl
theorem xt_232_2163 : am_to 232 2163 = 218 := rfl
theorem xi_232_2166 : am_do xs 232 2166 l st M = am_i1 st fun x r => am_nx 2168 (am_s1 l 6 (.int x)) r M := rfl
theorem xi_232_2168 : am_do xs 232 2168 l st M = am_lda (am_lg l 2) 2169 l st M := rfl
theorem xi_232_2169 : am_do xs 232 2169 l st M = am_lda (am_lg l 0) 2170 l st M := rfl
theorem xi_232_2170 : am_do xs 232 2170 l st M = am_ldi (am_lg l 5) 2172 l st M := rfl
theorem xi_232_2172 : am_do xs 232 2172 l st M = am_nx 2173 l (.int 1 :: st) M := rfl
theorem xi_232_2173 : am_do xs 232 2173 l st M = am_i2 st fun x y r => am_nx 2174 l (.int (x + y) :: r) M := rfl
theorem xi_232_2174 : am_do xs 232 2174 l st M = am_ial xs st 2175 l M := rfl
theorem xi_232_2175 : am_do xs 232 2175 l st M = am_lda (am_lg l 0) 2176 l st M := rfl
theorem xi_232_2176 : am_do xs 232 2176 l st M = am_ldi (am_lg l 5) 2178 l st M := rfl
theorem xi_232_2178 : am_do xs 232 2178 l st M = am_nx 2179 l (.int 2 :: st) M := rfl
theorem xi_232_2179 : am_do xs 232 2179 l st M = am_i2 st fun x y r => am_nx 2180 l (.int (x + y) :: r) M := rfl
theorem xi_232_2180 : am_do xs 232 2180 l st M = am_ial xs st 2181 l M := rfl
theorem xi_232_2181 : am_do xs 232 2181 l st M = am_inv 1 3 (.retAddr 8) st M := rfl
theorem xt_232_2181 : am_to 232 2181 = 164 := rfl
theorem xi_232_2184 : am_do xs 232 2184 l st M = am_i1 st fun x r => am_nx 2186 (am_s1 l 7 (.int x)) r M := rfl
theorem xi_232_2186 : am_do xs 232 2186 l st M = am_lda (am_lg l 2) 2187 l st M := rfl
theorem xi_232_2187 : am_do xs 232 2187 l st M = am_inv 1 1 (.retAddr 8) st M := rfl
theorem xt_232_2187 : am_to 232 2187 = 104 := rfl
theorem xi_232_2190 : am_do xs 232 2190 l st M = am_ldi (am_lg l 6) 2192 l st M := rfl
theorem xi_232_2192 : am_do xs 232 2192 l st M = am_i2 st fun x y r => am_nx (if x = y then 2197 else 2195) l r M := rfl
theorem xi_232_2195 : am_do xs 232 2195 l st M = am_nx 2196 l (.int 0 :: st) M := rfl
theorem xi_232_2196 : am_do xs 232 2196 l st M = am_rti st 2 := rfl
theorem xi_232_2197 : am_do xs 232 2197 l st M = am_ldi (am_lg l 6) 2199 l st M := rfl
theorem xi_232_2199 : am_do xs 232 2199 l st M = am_i1 st fun x r => am_nx (if ¬ x = 0 then 2214 else 2202) l r M := rfl
theorem xi_232_2202 : am_do xs 232 2202 l st M = am_lda (am_lg l 3) 2203 l st M := rfl
theorem xi_232_2203 : am_do xs 232 2203 l st M = am_nx 2204 l (.int 0 :: st) M := rfl
theorem xi_232_2204 : am_do xs 232 2204 l st M = am_ia st fun i o r => (am_aj (am_f M o) i).bind fun x => am_nx 2205 l (.long x :: r) M := rfl
theorem xi_232_2205 : am_do xs 232 2205 l st M = am_ldi (am_lg l 7) 2207 l st M := rfl
theorem xi_232_2207 : am_do xs 232 2207 l st M = am_i1 st fun x r => am_nx 2208 l (.long x.toInt64 :: r) M := rfl
theorem xi_232_2208 : am_do xs 232 2208 l st M = am_j2 st fun x y r => am_nx 2209 l (.int (lg_cmp x y) :: r) M := rfl
theorem xi_232_2209 : am_do xs 232 2209 l st M = am_i1 st fun x r => am_nx (if x = 0 then 2214 else 2212) l r M := rfl
theorem xi_232_2212 : am_do xs 232 2212 l st M = am_nx 2213 l (.int 0 :: st) M := rfl
theorem xi_232_2213 : am_do xs 232 2213 l st M = am_rti st 2 := rfl
theorem xi_232_2214 : am_do xs 232 2214 l st M = am_nx 3089 l st M := rfl
theorem xi_232_2217 : am_do xs 232 2217 l st M = am_lda (am_lg l 1) 2218 l st M := rfl
theorem xi_232_2218 : am_do xs 232 2218 l st M = am_lda (am_lg l 0) 2219 l st M := rfl
theorem xi_232_2219 : am_do xs 232 2219 l st M = am_ldi (am_lg l 5) 2221 l st M := rfl
theorem xi_232_2221 : am_do xs 232 2221 l st M = am_nx 2222 l (.int 1 :: st) M := rfl
theorem xi_232_2222 : am_do xs 232 2222 l st M = am_i2 st fun x y r => am_nx 2223 l (.int (x + y) :: r) M := rfl
theorem xi_232_2223 : am_do xs 232 2223 l st M = am_ial xs st 2224 l M := rfl
theorem xi_232_2224 : am_do xs 232 2224 l st M = am_lda (am_lg l 3) 2225 l st M := rfl
theorem xi_232_2225 : am_do xs 232 2225 l st M = am_inv 0 3 (.retAddr 100) st M := rfl
theorem xt_232_2225 : am_to 232 2225 = 219 := rfl
theorem xi_232_2228 : am_do xs 232 2228 l st M = am_i1 st fun x r => am_nx 2230 (am_s1 l 6 (.int x)) r M := rfl
theorem xi_232_2230 : am_do xs 232 2230 l st M = am_lda (am_lg l 2) 2231 l st M := rfl
theorem xi_232_2231 : am_do xs 232 2231 l st M = am_lda (am_lg l 0) 2232 l st M := rfl
theorem xi_232_2232 : am_do xs 232 2232 l st M = am_ldi (am_lg l 5) 2234 l st M := rfl
theorem xi_232_2234 : am_do xs 232 2234 l st M = am_nx 2235 l (.int 1 :: st) M := rfl
theorem xi_232_2235 : am_do xs 232 2235 l st M = am_i2 st fun x y r => am_nx 2236 l (.int (x + y) :: r) M := rfl
theorem xi_232_2236 : am_do xs 232 2236 l st M = am_ial xs st 2237 l M := rfl
theorem xi_232_2237 : am_do xs 232 2237 l st M = am_inv 1 2 (.retAddr 8) st M := rfl
theorem xt_232_2237 : am_to 232 2237 = 170 := rfl
theorem xi_232_2240 : am_do xs 232 2240 l st M = am_j1 st fun x r => am_nx 2242 (am_s2 l 7 (.long x)) r M := rfl
theorem xi_232_2242 : am_do xs 232 2242 l st M = am_lda (am_lg l 2) 2243 l st M := rfl
theorem xi_232_2243 : am_do xs 232 2243 l st M = am_inv 1 1 (.retAddr 8) st M := rfl
theorem xt_232_2243 : am_to 232 2243 = 104 := rfl
theorem xi_232_2246 : am_do xs 232 2246 l st M = am_ldi (am_lg l 6) 2248 l st M := rfl
theorem xi_232_2248 : am_do xs 232 2248 l st M = am_i2 st fun x y r => am_nx (if x = y then 2253 else 2251) l r M := rfl
theorem xi_232_2251 : am_do xs 232 2251 l st M = am_nx 2252 l (.int 0 :: st) M := rfl
theorem xi_232_2252 : am_do xs 232 2252 l st M = am_rti st 2 := rfl
theorem xi_232_2253 : am_do xs 232 2253 l st M = am_ldi (am_lg l 6) 2255 l st M := rfl
theorem xi_232_2255 : am_do xs 232 2255 l st M = am_i1 st fun x r => am_nx (if ¬ x = 0 then 2269 else 2258) l r M := rfl
theorem xi_232_2258 : am_do xs 232 2258 l st M = am_lda (am_lg l 3) 2259 l st M := rfl
theorem xi_232_2259 : am_do xs 232 2259 l st M = am_nx 2260 l (.int 0 :: st) M := rfl
theorem xi_232_2260 : am_do xs 232 2260 l st M = am_ia st fun i o r => (am_aj (am_f M o) i).bind fun x => am_nx 2261 l (.long x :: r) M := rfl
theorem xi_232_2261 : am_do xs 232 2261 l st M = am_ldj (am_lg l 7) 2263 l st M := rfl
theorem xi_232_2263 : am_do xs 232 2263 l st M = am_j2 st fun x y r => am_nx 2264 l (.int (lg_cmp x y) :: r) M := rfl
theorem xi_232_2264 : am_do xs 232 2264 l st M = am_i1 st fun x r => am_nx (if x = 0 then 2269 else 2267) l r M := rfl
theorem xi_232_2267 : am_do xs 232 2267 l st M = am_nx 2268 l (.int 0 :: st) M := rfl
theorem xi_232_2268 : am_do xs 232 2268 l st M = am_rti st 2 := rfl
theorem xi_232_2269 : am_do xs 232 2269 l st M = am_nx 3089 l st M := rfl
theorem xi_232_2272 : am_do xs 232 2272 l st M = am_lda (am_lg l 1) 2273 l st M := rfl
theorem xi_232_2273 : am_do xs 232 2273 l st M = am_lda (am_lg l 0) 2274 l st M := rfl
theorem xi_232_2274 : am_do xs 232 2274 l st M = am_ldi (am_lg l 5) 2276 l st M := rfl
theorem xi_232_2276 : am_do xs 232 2276 l st M = am_nx 2277 l (.int 1 :: st) M := rfl
theorem xi_232_2277 : am_do xs 232 2277 l st M = am_i2 st fun x y r => am_nx 2278 l (.int (x + y) :: r) M := rfl
theorem xi_232_2278 : am_do xs 232 2278 l st M = am_ial xs st 2279 l M := rfl
theorem xi_232_2279 : am_do xs 232 2279 l st M = am_lda (am_lg l 3) 2280 l st M := rfl
theorem xi_232_2280 : am_do xs 232 2280 l st M = am_inv 0 3 (.retAddr 100) st M := rfl
theorem xt_232_2280 : am_to 232 2280 = 220 := rfl
theorem xi_232_2283 : am_do xs 232 2283 l st M = am_i1 st fun x r => am_nx 2285 (am_s1 l 6 (.int x)) r M := rfl
theorem xi_232_2285 : am_do xs 232 2285 l st M = am_lda (am_lg l 2) 2286 l st M := rfl
theorem xi_232_2286 : am_do xs 232 2286 l st M = am_lda (am_lg l 0) 2287 l st M := rfl
theorem xi_232_2287 : am_do xs 232 2287 l st M = am_ldi (am_lg l 5) 2289 l st M := rfl
theorem xi_232_2289 : am_do xs 232 2289 l st M = am_nx 2290 l (.int 1 :: st) M := rfl
theorem xi_232_2290 : am_do xs 232 2290 l st M = am_i2 st fun x y r => am_nx 2291 l (.int (x + y) :: r) M := rfl
theorem xi_232_2291 : am_do xs 232 2291 l st M = am_ial xs st 2292 l M := rfl
theorem xi_232_2292 : am_do xs 232 2292 l st M = am_inv 1 2 (.retAddr 8) st M := rfl
theorem xt_232_2292 : am_to 232 2292 = 171 := rfl
theorem xi_232_2295 : am_do xs 232 2295 l st M = am_j1 st fun x r => am_nx 2297 (am_s2 l 7 (.long x)) r M := rfl
theorem xi_232_2297 : am_do xs 232 2297 l st M = am_lda (am_lg l 2) 2298 l st M := rfl
theorem xi_232_2298 : am_do xs 232 2298 l st M = am_inv 1 1 (.retAddr 8) st M := rfl
theorem xt_232_2298 : am_to 232 2298 = 104 := rfl
theorem xi_232_2301 : am_do xs 232 2301 l st M = am_ldi (am_lg l 6) 2303 l st M := rfl
theorem xi_232_2303 : am_do xs 232 2303 l st M = am_i2 st fun x y r => am_nx (if x = y then 2308 else 2306) l r M := rfl
theorem xi_232_2306 : am_do xs 232 2306 l st M = am_nx 2307 l (.int 0 :: st) M := rfl
theorem xi_232_2307 : am_do xs 232 2307 l st M = am_rti st 2 := rfl
theorem xi_232_2308 : am_do xs 232 2308 l st M = am_ldi (am_lg l 6) 2310 l st M := rfl
theorem xi_232_2310 : am_do xs 232 2310 l st M = am_i1 st fun x r => am_nx (if ¬ x = 0 then 2324 else 2313) l r M := rfl
theorem xi_232_2313 : am_do xs 232 2313 l st M = am_lda (am_lg l 3) 2314 l st M := rfl
theorem xi_232_2314 : am_do xs 232 2314 l st M = am_nx 2315 l (.int 0 :: st) M := rfl
theorem xi_232_2315 : am_do xs 232 2315 l st M = am_ia st fun i o r => (am_aj (am_f M o) i).bind fun x => am_nx 2316 l (.long x :: r) M := rfl
theorem xi_232_2316 : am_do xs 232 2316 l st M = am_ldj (am_lg l 7) 2318 l st M := rfl
theorem xi_232_2318 : am_do xs 232 2318 l st M = am_j2 st fun x y r => am_nx 2319 l (.int (lg_cmp x y) :: r) M := rfl
theorem xi_232_2319 : am_do xs 232 2319 l st M = am_i1 st fun x r => am_nx (if x = 0 then 2324 else 2322) l r M := rfl
theorem xi_232_2322 : am_do xs 232 2322 l st M = am_nx 2323 l (.int 0 :: st) M := rfl
theorem xi_232_2323 : am_do xs 232 2323 l st M = am_rti st 2 := rfl
theorem xi_232_2324 : am_do xs 232 2324 l st M = am_nx 3089 l st M := rfl
theorem xi_232_2327 : am_do xs 232 2327 l st M = am_lda (am_lg l 1) 2328 l st M := rfl
theorem xi_232_2328 : am_do xs 232 2328 l st M = am_lda (am_lg l 0) 2329 l st M := rfl
theorem xi_232_2329 : am_do xs 232 2329 l st M = am_ldi (am_lg l 5) 2331 l st M := rfl
theorem xi_232_2331 : am_do xs 232 2331 l st M = am_nx 2332 l (.int 1 :: st) M := rfl
theorem xi_232_2332 : am_do xs 232 2332 l st M = am_i2 st fun x y r => am_nx 2333 l (.int (x + y) :: r) M := rfl
theorem xi_232_2333 : am_do xs 232 2333 l st M = am_ial xs st 2334 l M := rfl
theorem xi_232_2334 : am_do xs 232 2334 l st M = am_i1 st fun x r => am_nx 2335 l (.long x.toInt64 :: r) M := rfl
theorem xi_232_2335 : am_do xs 232 2335 l st M = am_nx 2337 l (.int 32 :: st) M := rfl
theorem xi_232_2337 : am_do xs 232 2337 l st M = am_ij st fun x y r => am_nx 2338 l (.long (x <<< (y.toInt64 &&& 63)) :: r) M := rfl
theorem xi_232_2338 : am_do xs 232 2338 l st M = am_lda (am_lg l 0) 2339 l st M := rfl
theorem xi_232_2339 : am_do xs 232 2339 l st M = am_ldi (am_lg l 5) 2341 l st M := rfl
theorem xi_232_2341 : am_do xs 232 2341 l st M = am_nx 2342 l (.int 2 :: st) M := rfl
theorem xi_232_2342 : am_do xs 232 2342 l st M = am_i2 st fun x y r => am_nx 2343 l (.int (x + y) :: r) M := rfl
theorem xi_232_2343 : am_do xs 232 2343 l st M = am_ial xs st 2344 l M := rfl
theorem xi_232_2344 : am_do xs 232 2344 l st M = am_i1 st fun x r => am_nx 2345 l (.long x.toInt64 :: r) M := rfl
theorem xi_232_2345 : am_do xs 232 2345 l st M = am_nx 2348 l (.long 4294967295 :: st) M := rfl
theorem xi_232_2348 : am_do xs 232 2348 l st M = am_j2 st fun x y r => am_nx 2349 l (.long (x &&& y) :: r) M := rfl
theorem xi_232_2349 : am_do xs 232 2349 l st M = am_j2 st fun x y r => am_nx 2350 l (.long (x ||| y) :: r) M := rfl
theorem xi_232_2350 : am_do xs 232 2350 l st M = am_lda (am_lg l 3) 2351 l st M := rfl
theorem xi_232_2351 : am_do xs 232 2351 l st M = am_inv 0 3 (.retAddr 100) st M := rfl
theorem xt_232_2351 : am_to 232 2351 = 221 := rfl
theorem xi_232_2354 : am_do xs 232 2354 l st M = am_i1 st fun x r => am_nx 2356 (am_s1 l 6 (.int x)) r M := rfl
theorem xi_232_2356 : am_do xs 232 2356 l st M = am_lda (am_lg l 2) 2357 l st M := rfl
theorem xi_232_2357 : am_do xs 232 2357 l st M = am_lda (am_lg l 0) 2358 l st M := rfl
theorem xi_232_2358 : am_do xs 232 2358 l st M = am_ldi (am_lg l 5) 2360 l st M := rfl
theorem xi_232_2360 : am_do xs 232 2360 l st M = am_nx 2361 l (.int 1 :: st) M := rfl
theorem xi_232_2361 : am_do xs 232 2361 l st M = am_i2 st fun x y r => am_nx 2362 l (.int (x + y) :: r) M := rfl
theorem xi_232_2362 : am_do xs 232 2362 l st M = am_ial xs st 2363 l M := rfl
theorem xi_232_2363 : am_do xs 232 2363 l st M = am_i1 st fun x r => am_nx 2364 l (.long x.toInt64 :: r) M := rfl
theorem xi_232_2364 : am_do xs 232 2364 l st M = am_nx 2366 l (.int 32 :: st) M := rfl
theorem xi_232_2366 : am_do xs 232 2366 l st M = am_ij st fun x y r => am_nx 2367 l (.long (x <<< (y.toInt64 &&& 63)) :: r) M := rfl
theorem xi_232_2367 : am_do xs 232 2367 l st M = am_lda (am_lg l 0) 2368 l st M := rfl
theorem xi_232_2368 : am_do xs 232 2368 l st M = am_ldi (am_lg l 5) 2370 l st M := rfl
theorem xi_232_2370 : am_do xs 232 2370 l st M = am_nx 2371 l (.int 2 :: st) M := rfl
theorem xi_232_2371 : am_do xs 232 2371 l st M = am_i2 st fun x y r => am_nx 2372 l (.int (x + y) :: r) M := rfl
theorem xi_232_2372 : am_do xs 232 2372 l st M = am_ial xs st 2373 l M := rfl
theorem xi_232_2373 : am_do xs 232 2373 l st M = am_i1 st fun x r => am_nx 2374 l (.long x.toInt64 :: r) M := rfl
theorem xi_232_2374 : am_do xs 232 2374 l st M = am_nx 2377 l (.long 4294967295 :: st) M := rfl
theorem xi_232_2377 : am_do xs 232 2377 l st M = am_j2 st fun x y r => am_nx 2378 l (.long (x &&& y) :: r) M := rfl
theorem xi_232_2378 : am_do xs 232 2378 l st M = am_j2 st fun x y r => am_nx 2379 l (.long (x ||| y) :: r) M := rfl
theorem xi_232_2379 : am_do xs 232 2379 l st M = am_inv 1 2 (.retAddr 8) st M := rfl
theorem xt_232_2379 : am_to 232 2379 = 172 := rfl
theorem xi_232_2382 : am_do xs 232 2382 l st M = am_j1 st fun x r => am_nx 2384 (am_s2 l 7 (.long x)) r M := rfl
theorem xi_232_2384 : am_do xs 232 2384 l st M = am_lda (am_lg l 2) 2385 l st M := rfl
theorem xi_232_2385 : am_do xs 232 2385 l st M = am_inv 1 1 (.retAddr 8) st M := rfl
theorem xt_232_2385 : am_to 232 2385 = 104 := rfl
theorem xi_232_2388 : am_do xs 232 2388 l st M = am_ldi (am_lg l 6) 2390 l st M := rfl
theorem xi_232_2390 : am_do xs 232 2390 l st M = am_i2 st fun x y r => am_nx (if x = y then 2395 else 2393) l r M := rfl
theorem xi_232_2393 : am_do xs 232 2393 l st M = am_nx 2394 l (.int 0 :: st) M := rfl
theorem xi_232_2394 : am_do xs 232 2394 l st M = am_rti st 2 := rfl
theorem xi_232_2395 : am_do xs 232 2395 l st M = am_ldi (am_lg l 6) 2397 l st M := rfl
theorem xi_232_2397 : am_do xs 232 2397 l st M = am_i1 st fun x r => am_nx (if ¬ x = 0 then 2411 else 2400) l r M := rfl
theorem xi_232_2400 : am_do xs 232 2400 l st M = am_lda (am_lg l 3) 2401 l st M := rfl
theorem xi_232_2401 : am_do xs 232 2401 l st M = am_nx 2402 l (.int 0 :: st) M := rfl
theorem xi_232_2402 : am_do xs 232 2402 l st M = am_ia st fun i o r => (am_aj (am_f M o) i).bind fun x => am_nx 2403 l (.long x :: r) M := rfl
theorem xi_232_2403 : am_do xs 232 2403 l st M = am_ldj (am_lg l 7) 2405 l st M := rfl
theorem xi_232_2405 : am_do xs 232 2405 l st M = am_j2 st fun x y r => am_nx 2406 l (.int (lg_cmp x y) :: r) M := rfl
theorem xi_232_2406 : am_do xs 232 2406 l st M = am_i1 st fun x r => am_nx (if x = 0 then 2411 else 2409) l r M := rfl
theorem xi_232_2409 : am_do xs 232 2409 l st M = am_nx 2410 l (.int 0 :: st) M := rfl
theorem xi_232_2410 : am_do xs 232 2410 l st M = am_rti st 2 := rfl
theorem xi_232_2411 : am_do xs 232 2411 l st M = am_nx 3089 l st M := rfl
theorem xi_232_2414 : am_do xs 232 2414 l st M = am_lda (am_lg l 1) 2415 l st M := rfl
theorem xi_232_2415 : am_do xs 232 2415 l st M = am_lda (am_lg l 0) 2416 l st M := rfl
theorem xi_232_2416 : am_do xs 232 2416 l st M = am_ldi (am_lg l 5) 2418 l st M := rfl
theorem xi_232_2418 : am_do xs 232 2418 l st M = am_nx 2419 l (.int 1 :: st) M := rfl
theorem xi_232_2419 : am_do xs 232 2419 l st M = am_i2 st fun x y r => am_nx 2420 l (.int (x + y) :: r) M := rfl
theorem xi_232_2420 : am_do xs 232 2420 l st M = am_ial xs st 2421 l M := rfl
theorem xi_232_2421 : am_do xs 232 2421 l st M = am_lda (am_lg l 3) 2422 l st M := rfl
theorem xi_232_2422 : am_do xs 232 2422 l st M = am_inv 0 3 (.retAddr 100) st M := rfl
theorem xt_232_2422 : am_to 232 2422 = 222 := rfl
theorem xi_232_2425 : am_do xs 232 2425 l st M = am_i1 st fun x r => am_nx 2427 (am_s1 l 6 (.int x)) r M := rfl
theorem xi_232_2427 : am_do xs 232 2427 l st M = am_lda (am_lg l 2) 2428 l st M := rfl
theorem xi_232_2428 : am_do xs 232 2428 l st M = am_lda (am_lg l 0) 2429 l st M := rfl
theorem xi_232_2429 : am_do xs 232 2429 l st M = am_ldi (am_lg l 5) 2431 l st M := rfl
theorem xi_232_2431 : am_do xs 232 2431 l st M = am_nx 2432 l (.int 1 :: st) M := rfl
theorem xi_232_2432 : am_do xs 232 2432 l st M = am_i2 st fun x y r => am_nx 2433 l (.int (x + y) :: r) M := rfl
theorem xi_232_2433 : am_do xs 232 2433 l st M = am_ial xs st 2434 l M := rfl
theorem xi_232_2434 : am_do xs 232 2434 l st M = am_inv 1 2 (.retAddr 8) st M := rfl
theorem xt_232_2434 : am_to 232 2434 = 173 := rfl
theorem xi_232_2437 : am_do xs 232 2437 l st M = am_i1 st fun x r => am_nx 2439 (am_s1 l 7 (.int x)) r M := rfl
theorem xi_232_2439 : am_do xs 232 2439 l st M = am_lda (am_lg l 2) 2440 l st M := rfl
theorem xi_232_2440 : am_do xs 232 2440 l st M = am_inv 1 1 (.retAddr 8) st M := rfl
theorem xt_232_2440 : am_to 232 2440 = 104 := rfl
theorem xi_232_2443 : am_do xs 232 2443 l st M = am_ldi (am_lg l 6) 2445 l st M := rfl
theorem xi_232_2445 : am_do xs 232 2445 l st M = am_i2 st fun x y r => am_nx (if x = y then 2450 else 2448) l r M := rfl
theorem xi_232_2448 : am_do xs 232 2448 l st M = am_nx 2449 l (.int 0 :: st) M := rfl
theorem xi_232_2449 : am_do xs 232 2449 l st M = am_rti st 2 := rfl
theorem xi_232_2450 : am_do xs 232 2450 l st M = am_ldi (am_lg l 6) 2452 l st M := rfl
theorem xi_232_2452 : am_do xs 232 2452 l st M = am_i1 st fun x r => am_nx (if ¬ x = 0 then 2467 else 2455) l r M := rfl
theorem xi_232_2455 : am_do xs 232 2455 l st M = am_lda (am_lg l 3) 2456 l st M := rfl
theorem xi_232_2456 : am_do xs 232 2456 l st M = am_nx 2457 l (.int 0 :: st) M := rfl
theorem xi_232_2457 : am_do xs 232 2457 l st M = am_ia st fun i o r => (am_aj (am_f M o) i).bind fun x => am_nx 2458 l (.long x :: r) M := rfl
theorem xi_232_2458 : am_do xs 232 2458 l st M = am_ldi (am_lg l 7) 2460 l st M := rfl
theorem xi_232_2460 : am_do xs 232 2460 l st M = am_i1 st fun x r => am_nx 2461 l (.long x.toInt64 :: r) M := rfl
theorem xi_232_2461 : am_do xs 232 2461 l st M = am_j2 st fun x y r => am_nx 2462 l (.int (lg_cmp x y) :: r) M := rfl
theorem xi_232_2462 : am_do xs 232 2462 l st M = am_i1 st fun x r => am_nx (if x = 0 then 2467 else 2465) l r M := rfl
theorem xi_232_2465 : am_do xs 232 2465 l st M = am_nx 2466 l (.int 0 :: st) M := rfl
theorem xi_232_2466 : am_do xs 232 2466 l st M = am_rti st 2 := rfl
theorem xi_232_2467 : am_do xs 232 2467 l st M = am_nx 3089 l st M := rfl
theorem xi_232_2470 : am_do xs 232 2470 l st M = am_lda (am_lg l 1) 2471 l st M := rfl
theorem xi_232_2471 : am_do xs 232 2471 l st M = am_lda (am_lg l 0) 2472 l st M := rfl
theorem xi_232_2472 : am_do xs 232 2472 l st M = am_ldi (am_lg l 5) 2474 l st M := rfl
theorem xi_232_2474 : am_do xs 232 2474 l st M = am_nx 2475 l (.int 1 :: st) M := rfl
theorem xi_232_2475 : am_do xs 232 2475 l st M = am_i2 st fun x y r => am_nx 2476 l (.int (x + y) :: r) M := rfl
theorem xi_232_2476 : am_do xs 232 2476 l st M = am_ial xs st 2477 l M := rfl
theorem xi_232_2477 : am_do xs 232 2477 l st M = am_lda (am_lg l 4) 2479 l st M := rfl
theorem xi_232_2479 : am_do xs 232 2479 l st M = am_inv 0 3 (.retAddr 100) st M := rfl
theorem xt_232_2479 : am_to 232 2479 = 223 := rfl
theorem xi_232_2482 : am_do xs 232 2482 l st M = am_i1 st fun x r => am_nx 2484 (am_s1 l 6 (.int x)) r M := rfl
theorem xi_232_2484 : am_do xs 232 2484 l st M = am_lda (am_lg l 2) 2485 l st M := rfl
theorem xi_232_2485 : am_do xs 232 2485 l st M = am_lda (am_lg l 0) 2486 l st M := rfl
theorem xi_232_2486 : am_do xs 232 2486 l st M = am_ldi (am_lg l 5) 2488 l st M := rfl
theorem xi_232_2488 : am_do xs 232 2488 l st M = am_nx 2489 l (.int 1 :: st) M := rfl
theorem xi_232_2489 : am_do xs 232 2489 l st M = am_i2 st fun x y r => am_nx 2490 l (.int (x + y) :: r) M := rfl
theorem xi_232_2490 : am_do xs 232 2490 l st M = am_ial xs st 2491 l M := rfl
theorem xi_232_2491 : am_do xs 232 2491 l st M = am_inv 1 2 (.retAddr 8) st M := rfl
theorem xt_232_2491 : am_to 232 2491 = 175 := rfl
theorem xi_232_2494 : am_do xs 232 2494 l st M = am_d1 st fun x r => am_nx 2496 (am_s2 l 7 (.double x)) r M := rfl
theorem xi_232_2496 : am_do xs 232 2496 l st M = am_lda (am_lg l 2) 2497 l st M := rfl
theorem xi_232_2497 : am_do xs 232 2497 l st M = am_inv 1 1 (.retAddr 8) st M := rfl
theorem xt_232_2497 : am_to 232 2497 = 104 := rfl
theorem xi_232_2500 : am_do xs 232 2500 l st M = am_ldi (am_lg l 6) 2502 l st M := rfl
theorem xi_232_2502 : am_do xs 232 2502 l st M = am_i2 st fun x y r => am_nx (if x = y then 2507 else 2505) l r M := rfl
theorem xi_232_2505 : am_do xs 232 2505 l st M = am_nx 2506 l (.int 0 :: st) M := rfl
theorem xi_232_2506 : am_do xs 232 2506 l st M = am_rti st 2 := rfl
theorem xi_232_2507 : am_do xs 232 2507 l st M = am_ldi (am_lg l 6) 2509 l st M := rfl
theorem xi_232_2509 : am_do xs 232 2509 l st M = am_i1 st fun x r => am_nx (if ¬ x = 0 then 2544 else 2512) l r M := rfl
theorem xi_232_2512 : am_do xs 232 2512 l st M = am_lda (am_lg l 4) 2514 l st M := rfl
theorem xi_232_2514 : am_do xs 232 2514 l st M = am_nx 2515 l (.int 0 :: st) M := rfl
theorem xi_232_2515 : am_do xs 232 2515 l st M = am_ia st fun i o r => (am_ad (am_f M o) i).bind fun x => am_nx 2516 l (.double x :: r) M := rfl
theorem xi_232_2516 : am_do xs 232 2516 l st M = am_ldd (am_lg l 7) 2518 l st M := rfl
theorem xi_232_2518 : am_do xs 232 2518 l st M = am_d2 st fun x y r => am_nx 2519 l (.int (Op.cmpValue (FP.dcmp x y) .l) :: r) M := rfl
theorem xi_232_2519 : am_do xs 232 2519 l st M = am_i1 st fun x r => am_nx (if x = 0 then 2544 else 2522) l r M := rfl
theorem xi_232_2522 : am_do xs 232 2522 l st M = am_lda (am_lg l 4) 2524 l st M := rfl
theorem xi_232_2524 : am_do xs 232 2524 l st M = am_nx 2525 l (.int 0 :: st) M := rfl
theorem xi_232_2525 : am_do xs 232 2525 l st M = am_ia st fun i o r => (am_ad (am_f M o) i).bind fun x => am_nx 2526 l (.double x :: r) M := rfl
theorem xi_232_2526 : am_do xs 232 2526 l st M = am_lda (am_lg l 4) 2528 l st M := rfl
theorem xi_232_2528 : am_do xs 232 2528 l st M = am_nx 2529 l (.int 0 :: st) M := rfl
theorem xi_232_2529 : am_do xs 232 2529 l st M = am_ia st fun i o r => (am_ad (am_f M o) i).bind fun x => am_nx 2530 l (.double x :: r) M := rfl
theorem xi_232_2530 : am_do xs 232 2530 l st M = am_d2 st fun x y r => am_nx 2531 l (.int (Op.cmpValue (FP.dcmp x y) .l) :: r) M := rfl
theorem xi_232_2531 : am_do xs 232 2531 l st M = am_i1 st fun x r => am_nx (if x = 0 then 2542 else 2534) l r M := rfl
theorem xi_232_2534 : am_do xs 232 2534 l st M = am_ldd (am_lg l 7) 2536 l st M := rfl
theorem xi_232_2536 : am_do xs 232 2536 l st M = am_ldd (am_lg l 7) 2538 l st M := rfl
theorem xi_232_2538 : am_do xs 232 2538 l st M = am_d2 st fun x y r => am_nx 2539 l (.int (Op.cmpValue (FP.dcmp x y) .l) :: r) M := rfl
theorem xi_232_2539 : am_do xs 232 2539 l st M = am_i1 st fun x r => am_nx (if ¬ x = 0 then 2544 else 2542) l r M := rfl
theorem xi_232_2542 : am_do xs 232 2542 l st M = am_nx 2543 l (.int 0 :: st) M := rfl
theorem xi_232_2543 : am_do xs 232 2543 l st M = am_rti st 2 := rfl
theorem xi_232_2544 : am_do xs 232 2544 l st M = am_nx 3089 l st M := rfl
theorem xi_232_2547 : am_do xs 232 2547 l st M = am_lda (am_lg l 1) 2548 l st M := rfl
theorem xi_232_2548 : am_do xs 232 2548 l st M = am_lda (am_lg l 0) 2549 l st M := rfl
theorem xi_232_2549 : am_do xs 232 2549 l st M = am_ldi (am_lg l 5) 2551 l st M := rfl
theorem xi_232_2551 : am_do xs 232 2551 l st M = am_nx 2552 l (.int 1 :: st) M := rfl
theorem xi_232_2552 : am_do xs 232 2552 l st M = am_i2 st fun x y r => am_nx 2553 l (.int (x + y) :: r) M := rfl
theorem xi_232_2553 : am_do xs 232 2553 l st M = am_ial xs st 2554 l M := rfl
theorem xi_232_2554 : am_do xs 232 2554 l st M = am_lda (am_lg l 4) 2556 l st M := rfl
theorem xi_232_2556 : am_do xs 232 2556 l st M = am_inv 0 3 (.retAddr 100) st M := rfl
theorem xt_232_2556 : am_to 232 2556 = 224 := rfl
theorem xi_232_2559 : am_do xs 232 2559 l st M = am_i1 st fun x r => am_nx 2561 (am_s1 l 6 (.int x)) r M := rfl
theorem xi_232_2561 : am_do xs 232 2561 l st M = am_lda (am_lg l 2) 2562 l st M := rfl
theorem xi_232_2562 : am_do xs 232 2562 l st M = am_lda (am_lg l 0) 2563 l st M := rfl
theorem xi_232_2563 : am_do xs 232 2563 l st M = am_ldi (am_lg l 5) 2565 l st M := rfl
theorem xi_232_2565 : am_do xs 232 2565 l st M = am_nx 2566 l (.int 1 :: st) M := rfl
theorem xi_232_2566 : am_do xs 232 2566 l st M = am_i2 st fun x y r => am_nx 2567 l (.int (x + y) :: r) M := rfl
theorem xi_232_2567 : am_do xs 232 2567 l st M = am_ial xs st 2568 l M := rfl
theorem xi_232_2568 : am_do xs 232 2568 l st M = am_inv 1 2 (.retAddr 8) st M := rfl
theorem xt_232_2568 : am_to 232 2568 = 176 := rfl
theorem xi_232_2571 : am_do xs 232 2571 l st M = am_d1 st fun x r => am_nx 2573 (am_s2 l 7 (.double x)) r M := rfl
theorem xi_232_2573 : am_do xs 232 2573 l st M = am_lda (am_lg l 2) 2574 l st M := rfl
theorem xi_232_2574 : am_do xs 232 2574 l st M = am_inv 1 1 (.retAddr 8) st M := rfl
theorem xt_232_2574 : am_to 232 2574 = 104 := rfl
theorem xi_232_2577 : am_do xs 232 2577 l st M = am_ldi (am_lg l 6) 2579 l st M := rfl
theorem xi_232_2579 : am_do xs 232 2579 l st M = am_i2 st fun x y r => am_nx (if x = y then 2584 else 2582) l r M := rfl
theorem xi_232_2582 : am_do xs 232 2582 l st M = am_nx 2583 l (.int 0 :: st) M := rfl
theorem xi_232_2583 : am_do xs 232 2583 l st M = am_rti st 2 := rfl
theorem xi_232_2584 : am_do xs 232 2584 l st M = am_ldi (am_lg l 6) 2586 l st M := rfl
theorem xi_232_2586 : am_do xs 232 2586 l st M = am_i1 st fun x r => am_nx (if ¬ x = 0 then 2621 else 2589) l r M := rfl
theorem xi_232_2589 : am_do xs 232 2589 l st M = am_lda (am_lg l 4) 2591 l st M := rfl
theorem xi_232_2591 : am_do xs 232 2591 l st M = am_nx 2592 l (.int 0 :: st) M := rfl
theorem xi_232_2592 : am_do xs 232 2592 l st M = am_ia st fun i o r => (am_ad (am_f M o) i).bind fun x => am_nx 2593 l (.double x :: r) M := rfl
theorem xi_232_2593 : am_do xs 232 2593 l st M = am_ldd (am_lg l 7) 2595 l st M := rfl
theorem xi_232_2595 : am_do xs 232 2595 l st M = am_d2 st fun x y r => am_nx 2596 l (.int (Op.cmpValue (FP.dcmp x y) .l) :: r) M := rfl
theorem xi_232_2596 : am_do xs 232 2596 l st M = am_i1 st fun x r => am_nx (if x = 0 then 2621 else 2599) l r M := rfl
theorem xi_232_2599 : am_do xs 232 2599 l st M = am_lda (am_lg l 4) 2601 l st M := rfl
theorem xi_232_2601 : am_do xs 232 2601 l st M = am_nx 2602 l (.int 0 :: st) M := rfl
theorem xi_232_2602 : am_do xs 232 2602 l st M = am_ia st fun i o r => (am_ad (am_f M o) i).bind fun x => am_nx 2603 l (.double x :: r) M := rfl
theorem xi_232_2603 : am_do xs 232 2603 l st M = am_lda (am_lg l 4) 2605 l st M := rfl
theorem xi_232_2605 : am_do xs 232 2605 l st M = am_nx 2606 l (.int 0 :: st) M := rfl
theorem xi_232_2606 : am_do xs 232 2606 l st M = am_ia st fun i o r => (am_ad (am_f M o) i).bind fun x => am_nx 2607 l (.double x :: r) M := rfl
theorem xi_232_2607 : am_do xs 232 2607 l st M = am_d2 st fun x y r => am_nx 2608 l (.int (Op.cmpValue (FP.dcmp x y) .l) :: r) M := rfl
theorem xi_232_2608 : am_do xs 232 2608 l st M = am_i1 st fun x r => am_nx (if x = 0 then 2619 else 2611) l r M := rfl
theorem xi_232_2611 : am_do xs 232 2611 l st M = am_ldd (am_lg l 7) 2613 l st M := rfl
theorem xi_232_2613 : am_do xs 232 2613 l st M = am_ldd (am_lg l 7) 2615 l st M := rfl
theorem xi_232_2615 : am_do xs 232 2615 l st M = am_d2 st fun x y r => am_nx 2616 l (.int (Op.cmpValue (FP.dcmp x y) .l) :: r) M := rfl
theorem xi_232_2616 : am_do xs 232 2616 l st M = am_i1 st fun x r => am_nx (if ¬ x = 0 then 2621 else 2619) l r M := rfl
theorem xi_232_2619 : am_do xs 232 2619 l st M = am_nx 2620 l (.int 0 :: st) M := rfl
theorem xi_232_2620 : am_do xs 232 2620 l st M = am_rti st 2 := rfl
theorem xi_232_2621 : am_do xs 232 2621 l st M = am_nx 3089 l st M := rfl
theorem xi_232_2624 : am_do xs 232 2624 l st M = am_lda (am_lg l 1) 2625 l st M := rfl
theorem xi_232_2625 : am_do xs 232 2625 l st M = am_lda (am_lg l 0) 2626 l st M := rfl
theorem xi_232_2626 : am_do xs 232 2626 l st M = am_ldi (am_lg l 5) 2628 l st M := rfl
theorem xi_232_2628 : am_do xs 232 2628 l st M = am_nx 2629 l (.int 1 :: st) M := rfl
theorem xi_232_2629 : am_do xs 232 2629 l st M = am_i2 st fun x y r => am_nx 2630 l (.int (x + y) :: r) M := rfl
theorem xi_232_2630 : am_do xs 232 2630 l st M = am_ial xs st 2631 l M := rfl
theorem xi_232_2631 : am_do xs 232 2631 l st M = am_lda (am_lg l 3) 2632 l st M := rfl
theorem xi_232_2632 : am_do xs 232 2632 l st M = am_inv 0 3 (.retAddr 100) st M := rfl
theorem xt_232_2632 : am_to 232 2632 = 225 := rfl
theorem xi_232_2635 : am_do xs 232 2635 l st M = am_i1 st fun x r => am_nx 2637 (am_s1 l 6 (.int x)) r M := rfl
theorem xi_232_2637 : am_do xs 232 2637 l st M = am_lda (am_lg l 2) 2638 l st M := rfl
theorem xi_232_2638 : am_do xs 232 2638 l st M = am_lda (am_lg l 0) 2639 l st M := rfl
theorem xi_232_2639 : am_do xs 232 2639 l st M = am_ldi (am_lg l 5) 2641 l st M := rfl
theorem xi_232_2641 : am_do xs 232 2641 l st M = am_nx 2642 l (.int 1 :: st) M := rfl
theorem xi_232_2642 : am_do xs 232 2642 l st M = am_i2 st fun x y r => am_nx 2643 l (.int (x + y) :: r) M := rfl
theorem xi_232_2643 : am_do xs 232 2643 l st M = am_ial xs st 2644 l M := rfl
theorem xi_232_2644 : am_do xs 232 2644 l st M = am_inv 1 2 (.retAddr 8) st M := rfl
theorem xt_232_2644 : am_to 232 2644 = 177 := rfl
theorem xi_232_2647 : am_do xs 232 2647 l st M = am_i1 st fun x r => am_nx 2649 (am_s1 l 7 (.int x)) r M := rfl
theorem xi_232_2649 : am_do xs 232 2649 l st M = am_lda (am_lg l 2) 2650 l st M := rfl
theorem xi_232_2650 : am_do xs 232 2650 l st M = am_inv 1 1 (.retAddr 8) st M := rfl
theorem xt_232_2650 : am_to 232 2650 = 104 := rfl
theorem xi_232_2653 : am_do xs 232 2653 l st M = am_ldi (am_lg l 6) 2655 l st M := rfl
theorem xi_232_2655 : am_do xs 232 2655 l st M = am_i2 st fun x y r => am_nx (if x = y then 2660 else 2658) l r M := rfl
theorem xi_232_2658 : am_do xs 232 2658 l st M = am_nx 2659 l (.int 0 :: st) M := rfl
theorem xi_232_2659 : am_do xs 232 2659 l st M = am_rti st 2 := rfl
theorem xi_232_2660 : am_do xs 232 2660 l st M = am_ldi (am_lg l 6) 2662 l st M := rfl
theorem xi_232_2662 : am_do xs 232 2662 l st M = am_i1 st fun x r => am_nx (if ¬ x = 0 then 2677 else 2665) l r M := rfl
theorem xi_232_2665 : am_do xs 232 2665 l st M = am_lda (am_lg l 3) 2666 l st M := rfl
theorem xi_232_2666 : am_do xs 232 2666 l st M = am_nx 2667 l (.int 0 :: st) M := rfl
theorem xi_232_2667 : am_do xs 232 2667 l st M = am_ia st fun i o r => (am_aj (am_f M o) i).bind fun x => am_nx 2668 l (.long x :: r) M := rfl
theorem xi_232_2668 : am_do xs 232 2668 l st M = am_ldi (am_lg l 7) 2670 l st M := rfl
theorem xi_232_2670 : am_do xs 232 2670 l st M = am_i1 st fun x r => am_nx 2671 l (.long x.toInt64 :: r) M := rfl
theorem xi_232_2671 : am_do xs 232 2671 l st M = am_j2 st fun x y r => am_nx 2672 l (.int (lg_cmp x y) :: r) M := rfl
theorem xi_232_2672 : am_do xs 232 2672 l st M = am_i1 st fun x r => am_nx (if x = 0 then 2677 else 2675) l r M := rfl
theorem xi_232_2675 : am_do xs 232 2675 l st M = am_nx 2676 l (.int 0 :: st) M := rfl
theorem xi_232_2676 : am_do xs 232 2676 l st M = am_rti st 2 := rfl
theorem xi_232_2677 : am_do xs 232 2677 l st M = am_nx 3089 l st M := rfl
theorem xi_232_2680 : am_do xs 232 2680 l st M = am_lda (am_lg l 1) 2681 l st M := rfl
theorem xi_232_2681 : am_do xs 232 2681 l st M = am_lda (am_lg l 0) 2682 l st M := rfl
theorem xi_232_2682 : am_do xs 232 2682 l st M = am_ldi (am_lg l 5) 2684 l st M := rfl
theorem xi_232_2684 : am_do xs 232 2684 l st M = am_nx 2685 l (.int 1 :: st) M := rfl
theorem xi_232_2685 : am_do xs 232 2685 l st M = am_i2 st fun x y r => am_nx 2686 l (.int (x + y) :: r) M := rfl
theorem xi_232_2686 : am_do xs 232 2686 l st M = am_ial xs st 2687 l M := rfl
theorem xi_232_2687 : am_do xs 232 2687 l st M = am_lda (am_lg l 3) 2688 l st M := rfl
theorem xi_232_2688 : am_do xs 232 2688 l st M = am_inv 0 3 (.retAddr 100) st M := rfl
theorem xt_232_2688 : am_to 232 2688 = 226 := rfl
theorem xi_232_2691 : am_do xs 232 2691 l st M = am_i1 st fun x r => am_nx 2693 (am_s1 l 6 (.int x)) r M := rfl
theorem xi_232_2693 : am_do xs 232 2693 l st M = am_lda (am_lg l 2) 2694 l st M := rfl
theorem xi_232_2694 : am_do xs 232 2694 l st M = am_lda (am_lg l 0) 2695 l st M := rfl
theorem xi_232_2695 : am_do xs 232 2695 l st M = am_ldi (am_lg l 5) 2697 l st M := rfl
theorem xi_232_2697 : am_do xs 232 2697 l st M = am_nx 2698 l (.int 1 :: st) M := rfl
theorem xi_232_2698 : am_do xs 232 2698 l st M = am_i2 st fun x y r => am_nx 2699 l (.int (x + y) :: r) M := rfl
theorem xi_232_2699 : am_do xs 232 2699 l st M = am_ial xs st 2700 l M := rfl
theorem xi_232_2700 : am_do xs 232 2700 l st M = am_inv 1 2 (.retAddr 8) st M := rfl
theorem xt_232_2700 : am_to 232 2700 = 179 := rfl
theorem xi_232_2703 : am_do xs 232 2703 l st M = am_j1 st fun x r => am_nx 2705 (am_s2 l 7 (.long x)) r M := rfl
theorem xi_232_2705 : am_do xs 232 2705 l st M = am_lda (am_lg l 2) 2706 l st M := rfl
theorem xi_232_2706 : am_do xs 232 2706 l st M = am_inv 1 1 (.retAddr 8) st M := rfl
theorem xt_232_2706 : am_to 232 2706 = 104 := rfl
theorem xi_232_2709 : am_do xs 232 2709 l st M = am_ldi (am_lg l 6) 2711 l st M := rfl
theorem xi_232_2711 : am_do xs 232 2711 l st M = am_i2 st fun x y r => am_nx (if x = y then 2716 else 2714) l r M := rfl
theorem xi_232_2714 : am_do xs 232 2714 l st M = am_nx 2715 l (.int 0 :: st) M := rfl
theorem xi_232_2715 : am_do xs 232 2715 l st M = am_rti st 2 := rfl
theorem xi_232_2716 : am_do xs 232 2716 l st M = am_ldi (am_lg l 6) 2718 l st M := rfl
theorem xi_232_2718 : am_do xs 232 2718 l st M = am_i1 st fun x r => am_nx (if ¬ x = 0 then 2732 else 2721) l r M := rfl
theorem xi_232_2721 : am_do xs 232 2721 l st M = am_lda (am_lg l 3) 2722 l st M := rfl
theorem xi_232_2722 : am_do xs 232 2722 l st M = am_nx 2723 l (.int 0 :: st) M := rfl
theorem xi_232_2723 : am_do xs 232 2723 l st M = am_ia st fun i o r => (am_aj (am_f M o) i).bind fun x => am_nx 2724 l (.long x :: r) M := rfl
theorem xi_232_2724 : am_do xs 232 2724 l st M = am_ldj (am_lg l 7) 2726 l st M := rfl
theorem xi_232_2726 : am_do xs 232 2726 l st M = am_j2 st fun x y r => am_nx 2727 l (.int (lg_cmp x y) :: r) M := rfl
theorem xi_232_2727 : am_do xs 232 2727 l st M = am_i1 st fun x r => am_nx (if x = 0 then 2732 else 2730) l r M := rfl
theorem xi_232_2730 : am_do xs 232 2730 l st M = am_nx 2731 l (.int 0 :: st) M := rfl
theorem xi_232_2731 : am_do xs 232 2731 l st M = am_rti st 2 := rfl
theorem xi_232_2732 : am_do xs 232 2732 l st M = am_nx 3089 l st M := rfl
theorem xi_232_2735 : am_do xs 232 2735 l st M = am_lda (am_lg l 1) 2736 l st M := rfl
theorem xi_232_2736 : am_do xs 232 2736 l st M = am_lda (am_lg l 0) 2737 l st M := rfl
theorem xi_232_2737 : am_do xs 232 2737 l st M = am_ldi (am_lg l 5) 2739 l st M := rfl
theorem xi_232_2739 : am_do xs 232 2739 l st M = am_nx 2740 l (.int 1 :: st) M := rfl
theorem xi_232_2740 : am_do xs 232 2740 l st M = am_i2 st fun x y r => am_nx 2741 l (.int (x + y) :: r) M := rfl
theorem xi_232_2741 : am_do xs 232 2741 l st M = am_ial xs st 2742 l M := rfl
theorem xi_232_2742 : am_do xs 232 2742 l st M = am_lda (am_lg l 4) 2744 l st M := rfl
theorem xi_232_2744 : am_do xs 232 2744 l st M = am_inv 0 3 (.retAddr 100) st M := rfl
theorem xt_232_2744 : am_to 232 2744 = 227 := rfl
theorem xi_232_2747 : am_do xs 232 2747 l st M = am_i1 st fun x r => am_nx 2749 (am_s1 l 6 (.int x)) r M := rfl
theorem xi_232_2749 : am_do xs 232 2749 l st M = am_lda (am_lg l 2) 2750 l st M := rfl
theorem xi_232_2750 : am_do xs 232 2750 l st M = am_lda (am_lg l 0) 2751 l st M := rfl
theorem xi_232_2751 : am_do xs 232 2751 l st M = am_ldi (am_lg l 5) 2753 l st M := rfl
theorem xi_232_2753 : am_do xs 232 2753 l st M = am_nx 2754 l (.int 1 :: st) M := rfl
theorem xi_232_2754 : am_do xs 232 2754 l st M = am_i2 st fun x y r => am_nx 2755 l (.int (x + y) :: r) M := rfl
theorem xi_232_2755 : am_do xs 232 2755 l st M = am_ial xs st 2756 l M := rfl
theorem xi_232_2756 : am_do xs 232 2756 l st M = am_inv 1 2 (.retAddr 8) st M := rfl
theorem xt_232_2756 : am_to 232 2756 = 183 := rfl
theorem xi_232_2759 : am_do xs 232 2759 l st M = am_d1 st fun x r => am_nx 2761 (am_s2 l 7 (.double x)) r M := rfl
theorem xi_232_2761 : am_do xs 232 2761 l st M = am_lda (am_lg l 2) 2762 l st M := rfl
theorem xi_232_2762 : am_do xs 232 2762 l st M = am_inv 1 1 (.retAddr 8) st M := rfl
theorem xt_232_2762 : am_to 232 2762 = 104 := rfl
theorem xi_232_2765 : am_do xs 232 2765 l st M = am_ldi (am_lg l 6) 2767 l st M := rfl
theorem xi_232_2767 : am_do xs 232 2767 l st M = am_i2 st fun x y r => am_nx (if x = y then 2772 else 2770) l r M := rfl
theorem xi_232_2770 : am_do xs 232 2770 l st M = am_nx 2771 l (.int 0 :: st) M := rfl
theorem xi_232_2771 : am_do xs 232 2771 l st M = am_rti st 2 := rfl
theorem xi_232_2772 : am_do xs 232 2772 l st M = am_ldi (am_lg l 6) 2774 l st M := rfl
theorem xi_232_2774 : am_do xs 232 2774 l st M = am_i1 st fun x r => am_nx (if ¬ x = 0 then 2809 else 2777) l r M := rfl
theorem xi_232_2777 : am_do xs 232 2777 l st M = am_lda (am_lg l 4) 2779 l st M := rfl
theorem xi_232_2779 : am_do xs 232 2779 l st M = am_nx 2780 l (.int 0 :: st) M := rfl
theorem xi_232_2780 : am_do xs 232 2780 l st M = am_ia st fun i o r => (am_ad (am_f M o) i).bind fun x => am_nx 2781 l (.double x :: r) M := rfl
theorem xi_232_2781 : am_do xs 232 2781 l st M = am_ldd (am_lg l 7) 2783 l st M := rfl
theorem xi_232_2783 : am_do xs 232 2783 l st M = am_d2 st fun x y r => am_nx 2784 l (.int (Op.cmpValue (FP.dcmp x y) .l) :: r) M := rfl
theorem xi_232_2784 : am_do xs 232 2784 l st M = am_i1 st fun x r => am_nx (if x = 0 then 2809 else 2787) l r M := rfl
theorem xi_232_2787 : am_do xs 232 2787 l st M = am_lda (am_lg l 4) 2789 l st M := rfl
theorem xi_232_2789 : am_do xs 232 2789 l st M = am_nx 2790 l (.int 0 :: st) M := rfl
theorem xi_232_2790 : am_do xs 232 2790 l st M = am_ia st fun i o r => (am_ad (am_f M o) i).bind fun x => am_nx 2791 l (.double x :: r) M := rfl
theorem xi_232_2791 : am_do xs 232 2791 l st M = am_lda (am_lg l 4) 2793 l st M := rfl
theorem xi_232_2793 : am_do xs 232 2793 l st M = am_nx 2794 l (.int 0 :: st) M := rfl
theorem xi_232_2794 : am_do xs 232 2794 l st M = am_ia st fun i o r => (am_ad (am_f M o) i).bind fun x => am_nx 2795 l (.double x :: r) M := rfl
theorem xi_232_2795 : am_do xs 232 2795 l st M = am_d2 st fun x y r => am_nx 2796 l (.int (Op.cmpValue (FP.dcmp x y) .l) :: r) M := rfl
theorem xi_232_2796 : am_do xs 232 2796 l st M = am_i1 st fun x r => am_nx (if x = 0 then 2807 else 2799) l r M := rfl
theorem xi_232_2799 : am_do xs 232 2799 l st M = am_ldd (am_lg l 7) 2801 l st M := rfl
theorem xi_232_2801 : am_do xs 232 2801 l st M = am_ldd (am_lg l 7) 2803 l st M := rfl
theorem xi_232_2803 : am_do xs 232 2803 l st M = am_d2 st fun x y r => am_nx 2804 l (.int (Op.cmpValue (FP.dcmp x y) .l) :: r) M := rfl
theorem xi_232_2804 : am_do xs 232 2804 l st M = am_i1 st fun x r => am_nx (if ¬ x = 0 then 2809 else 2807) l r M := rfl
theorem xi_232_2807 : am_do xs 232 2807 l st M = am_nx 2808 l (.int 0 :: st) M := rfl
theorem xi_232_2808 : am_do xs 232 2808 l st M = am_rti st 2 := rfl
theorem xi_232_2809 : am_do xs 232 2809 l st M = am_nx 3089 l st M := rfl
theorem xi_232_2812 : am_do xs 232 2812 l st M = am_lda (am_lg l 1) 2813 l st M := rfl
theorem xi_232_2813 : am_do xs 232 2813 l st M = am_lda (am_lg l 0) 2814 l st M := rfl
theorem xi_232_2814 : am_do xs 232 2814 l st M = am_ldi (am_lg l 5) 2816 l st M := rfl
theorem xi_232_2816 : am_do xs 232 2816 l st M = am_nx 2817 l (.int 1 :: st) M := rfl
theorem xi_232_2817 : am_do xs 232 2817 l st M = am_i2 st fun x y r => am_nx 2818 l (.int (x + y) :: r) M := rfl
theorem xi_232_2818 : am_do xs 232 2818 l st M = am_ial xs st 2819 l M := rfl
theorem xi_232_2819 : am_do xs 232 2819 l st M = am_lda (am_lg l 4) 2821 l st M := rfl
theorem xi_232_2821 : am_do xs 232 2821 l st M = am_inv 0 3 (.retAddr 100) st M := rfl
theorem xt_232_2821 : am_to 232 2821 = 228 := rfl
theorem xi_232_2824 : am_do xs 232 2824 l st M = am_i1 st fun x r => am_nx 2826 (am_s1 l 6 (.int x)) r M := rfl
theorem xi_232_2826 : am_do xs 232 2826 l st M = am_lda (am_lg l 2) 2827 l st M := rfl
theorem xi_232_2827 : am_do xs 232 2827 l st M = am_lda (am_lg l 0) 2828 l st M := rfl
theorem xi_232_2828 : am_do xs 232 2828 l st M = am_ldi (am_lg l 5) 2830 l st M := rfl
theorem xi_232_2830 : am_do xs 232 2830 l st M = am_nx 2831 l (.int 1 :: st) M := rfl
theorem xi_232_2831 : am_do xs 232 2831 l st M = am_i2 st fun x y r => am_nx 2832 l (.int (x + y) :: r) M := rfl
theorem xi_232_2832 : am_do xs 232 2832 l st M = am_ial xs st 2833 l M := rfl
theorem xi_232_2833 : am_do xs 232 2833 l st M = am_inv 1 2 (.retAddr 8) st M := rfl
theorem xt_232_2833 : am_to 232 2833 = 184 := rfl
theorem xi_232_2836 : am_do xs 232 2836 l st M = am_d1 st fun x r => am_nx 2838 (am_s2 l 7 (.double x)) r M := rfl
theorem xi_232_2838 : am_do xs 232 2838 l st M = am_lda (am_lg l 2) 2839 l st M := rfl
theorem xi_232_2839 : am_do xs 232 2839 l st M = am_inv 1 1 (.retAddr 8) st M := rfl
theorem xt_232_2839 : am_to 232 2839 = 104 := rfl
theorem xi_232_2842 : am_do xs 232 2842 l st M = am_ldi (am_lg l 6) 2844 l st M := rfl
theorem xi_232_2844 : am_do xs 232 2844 l st M = am_i2 st fun x y r => am_nx (if x = y then 2849 else 2847) l r M := rfl
theorem xi_232_2847 : am_do xs 232 2847 l st M = am_nx 2848 l (.int 0 :: st) M := rfl
theorem xi_232_2848 : am_do xs 232 2848 l st M = am_rti st 2 := rfl
theorem xi_232_2849 : am_do xs 232 2849 l st M = am_ldi (am_lg l 6) 2851 l st M := rfl
theorem xi_232_2851 : am_do xs 232 2851 l st M = am_i1 st fun x r => am_nx (if ¬ x = 0 then 2886 else 2854) l r M := rfl
theorem xi_232_2854 : am_do xs 232 2854 l st M = am_lda (am_lg l 4) 2856 l st M := rfl
theorem xi_232_2856 : am_do xs 232 2856 l st M = am_nx 2857 l (.int 0 :: st) M := rfl
theorem xi_232_2857 : am_do xs 232 2857 l st M = am_ia st fun i o r => (am_ad (am_f M o) i).bind fun x => am_nx 2858 l (.double x :: r) M := rfl
theorem xi_232_2858 : am_do xs 232 2858 l st M = am_ldd (am_lg l 7) 2860 l st M := rfl
theorem xi_232_2860 : am_do xs 232 2860 l st M = am_d2 st fun x y r => am_nx 2861 l (.int (Op.cmpValue (FP.dcmp x y) .l) :: r) M := rfl
theorem xi_232_2861 : am_do xs 232 2861 l st M = am_i1 st fun x r => am_nx (if x = 0 then 2886 else 2864) l r M := rfl
theorem xi_232_2864 : am_do xs 232 2864 l st M = am_lda (am_lg l 4) 2866 l st M := rfl
theorem xi_232_2866 : am_do xs 232 2866 l st M = am_nx 2867 l (.int 0 :: st) M := rfl
theorem xi_232_2867 : am_do xs 232 2867 l st M = am_ia st fun i o r => (am_ad (am_f M o) i).bind fun x => am_nx 2868 l (.double x :: r) M := rfl
theorem xi_232_2868 : am_do xs 232 2868 l st M = am_lda (am_lg l 4) 2870 l st M := rfl
theorem xi_232_2870 : am_do xs 232 2870 l st M = am_nx 2871 l (.int 0 :: st) M := rfl
theorem xi_232_2871 : am_do xs 232 2871 l st M = am_ia st fun i o r => (am_ad (am_f M o) i).bind fun x => am_nx 2872 l (.double x :: r) M := rfl
theorem xi_232_2872 : am_do xs 232 2872 l st M = am_d2 st fun x y r => am_nx 2873 l (.int (Op.cmpValue (FP.dcmp x y) .l) :: r) M := rfl
theorem xi_232_2873 : am_do xs 232 2873 l st M = am_i1 st fun x r => am_nx (if x = 0 then 2884 else 2876) l r M := rfl
theorem xi_232_2876 : am_do xs 232 2876 l st M = am_ldd (am_lg l 7) 2878 l st M := rfl
theorem xi_232_2878 : am_do xs 232 2878 l st M = am_ldd (am_lg l 7) 2880 l st M := rfl
theorem xi_232_2880 : am_do xs 232 2880 l st M = am_d2 st fun x y r => am_nx 2881 l (.int (Op.cmpValue (FP.dcmp x y) .l) :: r) M := rfl
theorem xi_232_2881 : am_do xs 232 2881 l st M = am_i1 st fun x r => am_nx (if ¬ x = 0 then 2886 else 2884) l r M := rfl
theorem xi_232_2884 : am_do xs 232 2884 l st M = am_nx 2885 l (.int 0 :: st) M := rfl
theorem xi_232_2885 : am_do xs 232 2885 l st M = am_rti st 2 := rfl
theorem xi_232_2886 : am_do xs 232 2886 l st M = am_nx 3089 l st M := rfl
theorem xi_232_2889 : am_do xs 232 2889 l st M = am_lda (am_lg l 1) 2890 l st M := rfl
theorem xi_232_2890 : am_do xs 232 2890 l st M = am_lda (am_lg l 0) 2891 l st M := rfl
theorem xi_232_2891 : am_do xs 232 2891 l st M = am_ldi (am_lg l 5) 2893 l st M := rfl
theorem xi_232_2893 : am_do xs 232 2893 l st M = am_nx 2894 l (.int 1 :: st) M := rfl
theorem xi_232_2894 : am_do xs 232 2894 l st M = am_i2 st fun x y r => am_nx 2895 l (.int (x + y) :: r) M := rfl
theorem xi_232_2895 : am_do xs 232 2895 l st M = am_ial xs st 2896 l M := rfl
theorem xi_232_2896 : am_do xs 232 2896 l st M = am_lda (am_lg l 4) 2898 l st M := rfl
theorem xi_232_2898 : am_do xs 232 2898 l st M = am_inv 0 3 (.retAddr 100) st M := rfl
theorem xt_232_2898 : am_to 232 2898 = 229 := rfl
theorem xi_232_2901 : am_do xs 232 2901 l st M = am_i1 st fun x r => am_nx 2903 (am_s1 l 6 (.int x)) r M := rfl
theorem xi_232_2903 : am_do xs 232 2903 l st M = am_lda (am_lg l 2) 2904 l st M := rfl
theorem xi_232_2904 : am_do xs 232 2904 l st M = am_lda (am_lg l 0) 2905 l st M := rfl
theorem xi_232_2905 : am_do xs 232 2905 l st M = am_ldi (am_lg l 5) 2907 l st M := rfl
theorem xi_232_2907 : am_do xs 232 2907 l st M = am_nx 2908 l (.int 1 :: st) M := rfl
theorem xi_232_2908 : am_do xs 232 2908 l st M = am_i2 st fun x y r => am_nx 2909 l (.int (x + y) :: r) M := rfl
theorem xi_232_2909 : am_do xs 232 2909 l st M = am_ial xs st 2910 l M := rfl
theorem xi_232_2910 : am_do xs 232 2910 l st M = am_inv 1 2 (.retAddr 8) st M := rfl
theorem xt_232_2910 : am_to 232 2910 = 185 := rfl
theorem xi_232_2913 : am_do xs 232 2913 l st M = am_d1 st fun x r => am_nx 2915 (am_s2 l 7 (.double x)) r M := rfl
theorem xi_232_2915 : am_do xs 232 2915 l st M = am_lda (am_lg l 2) 2916 l st M := rfl
theorem xi_232_2916 : am_do xs 232 2916 l st M = am_inv 1 1 (.retAddr 8) st M := rfl
theorem xt_232_2916 : am_to 232 2916 = 104 := rfl
theorem xi_232_2919 : am_do xs 232 2919 l st M = am_ldi (am_lg l 6) 2921 l st M := rfl
theorem xi_232_2921 : am_do xs 232 2921 l st M = am_i2 st fun x y r => am_nx (if x = y then 2926 else 2924) l r M := rfl
theorem xi_232_2924 : am_do xs 232 2924 l st M = am_nx 2925 l (.int 0 :: st) M := rfl
theorem xi_232_2925 : am_do xs 232 2925 l st M = am_rti st 2 := rfl
theorem xi_232_2926 : am_do xs 232 2926 l st M = am_ldi (am_lg l 6) 2928 l st M := rfl
theorem xi_232_2928 : am_do xs 232 2928 l st M = am_i1 st fun x r => am_nx (if ¬ x = 0 then 2963 else 2931) l r M := rfl
theorem xi_232_2931 : am_do xs 232 2931 l st M = am_lda (am_lg l 4) 2933 l st M := rfl
theorem xi_232_2933 : am_do xs 232 2933 l st M = am_nx 2934 l (.int 0 :: st) M := rfl
theorem xi_232_2934 : am_do xs 232 2934 l st M = am_ia st fun i o r => (am_ad (am_f M o) i).bind fun x => am_nx 2935 l (.double x :: r) M := rfl
theorem xi_232_2935 : am_do xs 232 2935 l st M = am_ldd (am_lg l 7) 2937 l st M := rfl
theorem xi_232_2937 : am_do xs 232 2937 l st M = am_d2 st fun x y r => am_nx 2938 l (.int (Op.cmpValue (FP.dcmp x y) .l) :: r) M := rfl
theorem xi_232_2938 : am_do xs 232 2938 l st M = am_i1 st fun x r => am_nx (if x = 0 then 2963 else 2941) l r M := rfl
theorem xi_232_2941 : am_do xs 232 2941 l st M = am_lda (am_lg l 4) 2943 l st M := rfl
theorem xi_232_2943 : am_do xs 232 2943 l st M = am_nx 2944 l (.int 0 :: st) M := rfl
theorem xi_232_2944 : am_do xs 232 2944 l st M = am_ia st fun i o r => (am_ad (am_f M o) i).bind fun x => am_nx 2945 l (.double x :: r) M := rfl
theorem xi_232_2945 : am_do xs 232 2945 l st M = am_lda (am_lg l 4) 2947 l st M := rfl
theorem xi_232_2947 : am_do xs 232 2947 l st M = am_nx 2948 l (.int 0 :: st) M := rfl
theorem xi_232_2948 : am_do xs 232 2948 l st M = am_ia st fun i o r => (am_ad (am_f M o) i).bind fun x => am_nx 2949 l (.double x :: r) M := rfl
theorem xi_232_2949 : am_do xs 232 2949 l st M = am_d2 st fun x y r => am_nx 2950 l (.int (Op.cmpValue (FP.dcmp x y) .l) :: r) M := rfl
theorem xi_232_2950 : am_do xs 232 2950 l st M = am_i1 st fun x r => am_nx (if x = 0 then 2961 else 2953) l r M := rfl
theorem xi_232_2953 : am_do xs 232 2953 l st M = am_ldd (am_lg l 7) 2955 l st M := rfl
theorem xi_232_2955 : am_do xs 232 2955 l st M = am_ldd (am_lg l 7) 2957 l st M := rfl
theorem xi_232_2957 : am_do xs 232 2957 l st M = am_d2 st fun x y r => am_nx 2958 l (.int (Op.cmpValue (FP.dcmp x y) .l) :: r) M := rfl
theorem xi_232_2958 : am_do xs 232 2958 l st M = am_i1 st fun x r => am_nx (if ¬ x = 0 then 2963 else 2961) l r M := rfl
theorem xi_232_2961 : am_do xs 232 2961 l st M = am_nx 2962 l (.int 0 :: st) M := rfl
theorem xi_232_2962 : am_do xs 232 2962 l st M = am_rti st 2 := rfl
theorem xi_232_2963 : am_do xs 232 2963 l st M = am_nx 3089 l st M := rfl
theorem xi_232_2966 : am_do xs 232 2966 l st M = am_lda (am_lg l 1) 2967 l st M := rfl
theorem xi_232_2967 : am_do xs 232 2967 l st M = am_lda (am_lg l 0) 2968 l st M := rfl
theorem xi_232_2968 : am_do xs 232 2968 l st M = am_ldi (am_lg l 5) 2970 l st M := rfl
theorem xi_232_2970 : am_do xs 232 2970 l st M = am_nx 2971 l (.int 1 :: st) M := rfl
theorem xi_232_2971 : am_do xs 232 2971 l st M = am_i2 st fun x y r => am_nx 2972 l (.int (x + y) :: r) M := rfl
theorem xi_232_2972 : am_do xs 232 2972 l st M = am_ial xs st 2973 l M := rfl
theorem xi_232_2973 : am_do xs 232 2973 l st M = am_lda (am_lg l 3) 2974 l st M := rfl
theorem xi_232_2974 : am_do xs 232 2974 l st M = am_inv 0 3 (.retAddr 100) st M := rfl
theorem xt_232_2974 : am_to 232 2974 = 230 := rfl
theorem xi_232_2977 : am_do xs 232 2977 l st M = am_i1 st fun x r => am_nx 2979 (am_s1 l 6 (.int x)) r M := rfl
theorem xi_232_2979 : am_do xs 232 2979 l st M = am_lda (am_lg l 2) 2980 l st M := rfl
theorem xi_232_2980 : am_do xs 232 2980 l st M = am_lda (am_lg l 0) 2981 l st M := rfl
theorem xi_232_2981 : am_do xs 232 2981 l st M = am_ldi (am_lg l 5) 2983 l st M := rfl
theorem xi_232_2983 : am_do xs 232 2983 l st M = am_nx 2984 l (.int 1 :: st) M := rfl
theorem xi_232_2984 : am_do xs 232 2984 l st M = am_i2 st fun x y r => am_nx 2985 l (.int (x + y) :: r) M := rfl
theorem xi_232_2985 : am_do xs 232 2985 l st M = am_ial xs st 2986 l M := rfl
theorem xi_232_2986 : am_do xs 232 2986 l st M = am_inv 1 2 (.retAddr 8) st M := rfl
theorem xt_232_2986 : am_to 232 2986 = 186 := rfl
theorem xi_232_2989 : am_do xs 232 2989 l st M = am_j1 st fun x r => am_nx 2991 (am_s2 l 7 (.long x)) r M := rfl
theorem xi_232_2991 : am_do xs 232 2991 l st M = am_lda (am_lg l 2) 2992 l st M := rfl
theorem xi_232_2992 : am_do xs 232 2992 l st M = am_inv 1 1 (.retAddr 8) st M := rfl
theorem xt_232_2992 : am_to 232 2992 = 104 := rfl
theorem xi_232_2995 : am_do xs 232 2995 l st M = am_ldi (am_lg l 6) 2997 l st M := rfl
theorem xi_232_2997 : am_do xs 232 2997 l st M = am_i2 st fun x y r => am_nx (if x = y then 3002 else 3000) l r M := rfl
theorem xi_232_3000 : am_do xs 232 3000 l st M = am_nx 3001 l (.int 0 :: st) M := rfl
theorem xi_232_3001 : am_do xs 232 3001 l st M = am_rti st 2 := rfl
theorem xi_232_3002 : am_do xs 232 3002 l st M = am_ldi (am_lg l 6) 3004 l st M := rfl
theorem xi_232_3004 : am_do xs 232 3004 l st M = am_i1 st fun x r => am_nx (if ¬ x = 0 then 3018 else 3007) l r M := rfl
theorem xi_232_3007 : am_do xs 232 3007 l st M = am_lda (am_lg l 3) 3008 l st M := rfl
theorem xi_232_3008 : am_do xs 232 3008 l st M = am_nx 3009 l (.int 0 :: st) M := rfl
theorem xi_232_3009 : am_do xs 232 3009 l st M = am_ia st fun i o r => (am_aj (am_f M o) i).bind fun x => am_nx 3010 l (.long x :: r) M := rfl
theorem xi_232_3010 : am_do xs 232 3010 l st M = am_ldj (am_lg l 7) 3012 l st M := rfl
theorem xi_232_3012 : am_do xs 232 3012 l st M = am_j2 st fun x y r => am_nx 3013 l (.int (lg_cmp x y) :: r) M := rfl
theorem xi_232_3013 : am_do xs 232 3013 l st M = am_i1 st fun x r => am_nx (if x = 0 then 3018 else 3016) l r M := rfl
theorem xi_232_3016 : am_do xs 232 3016 l st M = am_nx 3017 l (.int 0 :: st) M := rfl
theorem xi_232_3017 : am_do xs 232 3017 l st M = am_rti st 2 := rfl
theorem xi_232_3018 : am_do xs 232 3018 l st M = am_nx 3089 l st M := rfl
theorem xi_232_3021 : am_do xs 232 3021 l st M = am_lda (am_lg l 1) 3022 l st M := rfl
theorem xi_232_3022 : am_do xs 232 3022 l st M = am_lda (am_lg l 0) 3023 l st M := rfl
theorem xi_232_3023 : am_do xs 232 3023 l st M = am_ldi (am_lg l 5) 3025 l st M := rfl
theorem xi_232_3025 : am_do xs 232 3025 l st M = am_nx 3026 l (.int 1 :: st) M := rfl
theorem xi_232_3026 : am_do xs 232 3026 l st M = am_i2 st fun x y r => am_nx 3027 l (.int (x + y) :: r) M := rfl
theorem xi_232_3027 : am_do xs 232 3027 l st M = am_ial xs st 3028 l M := rfl
theorem xi_232_3028 : am_do xs 232 3028 l st M = am_lda (am_lg l 3) 3029 l st M := rfl
theorem xi_232_3029 : am_do xs 232 3029 l st M = am_inv 0 3 (.retAddr 100) st M := rfl
theorem xt_232_3029 : am_to 232 3029 = 231 := rfl
theorem xi_232_3032 : am_do xs 232 3032 l st M = am_i1 st fun x r => am_nx 3034 (am_s1 l 6 (.int x)) r M := rfl
theorem xi_232_3034 : am_do xs 232 3034 l st M = am_lda (am_lg l 2) 3035 l st M := rfl
theorem xi_232_3035 : am_do xs 232 3035 l st M = am_lda (am_lg l 0) 3036 l st M := rfl
theorem xi_232_3036 : am_do xs 232 3036 l st M = am_ldi (am_lg l 5) 3038 l st M := rfl
theorem xi_232_3038 : am_do xs 232 3038 l st M = am_nx 3039 l (.int 1 :: st) M := rfl
theorem xi_232_3039 : am_do xs 232 3039 l st M = am_i2 st fun x y r => am_nx 3040 l (.int (x + y) :: r) M := rfl
theorem xi_232_3040 : am_do xs 232 3040 l st M = am_ial xs st 3041 l M := rfl
theorem xi_232_3041 : am_do xs 232 3041 l st M = am_inv 1 2 (.retAddr 8) st M := rfl
theorem xt_232_3041 : am_to 232 3041 = 187 := rfl
theorem xi_232_3044 : am_do xs 232 3044 l st M = am_j1 st fun x r => am_nx 3046 (am_s2 l 7 (.long x)) r M := rfl
theorem xi_232_3046 : am_do xs 232 3046 l st M = am_lda (am_lg l 2) 3047 l st M := rfl
theorem xi_232_3047 : am_do xs 232 3047 l st M = am_inv 1 1 (.retAddr 8) st M := rfl
theorem xt_232_3047 : am_to 232 3047 = 104 := rfl
theorem xi_232_3050 : am_do xs 232 3050 l st M = am_ldi (am_lg l 6) 3052 l st M := rfl
theorem xi_232_3052 : am_do xs 232 3052 l st M = am_i2 st fun x y r => am_nx (if x = y then 3057 else 3055) l r M := rfl
theorem xi_232_3055 : am_do xs 232 3055 l st M = am_nx 3056 l (.int 0 :: st) M := rfl
theorem xi_232_3056 : am_do xs 232 3056 l st M = am_rti st 2 := rfl
theorem xi_232_3057 : am_do xs 232 3057 l st M = am_ldi (am_lg l 6) 3059 l st M := rfl
theorem xi_232_3059 : am_do xs 232 3059 l st M = am_i1 st fun x r => am_nx (if ¬ x = 0 then 3073 else 3062) l r M := rfl
theorem xi_232_3062 : am_do xs 232 3062 l st M = am_lda (am_lg l 3) 3063 l st M := rfl
theorem xi_232_3063 : am_do xs 232 3063 l st M = am_nx 3064 l (.int 0 :: st) M := rfl
theorem xi_232_3064 : am_do xs 232 3064 l st M = am_ia st fun i o r => (am_aj (am_f M o) i).bind fun x => am_nx 3065 l (.long x :: r) M := rfl
theorem xi_232_3065 : am_do xs 232 3065 l st M = am_ldj (am_lg l 7) 3067 l st M := rfl
theorem xi_232_3067 : am_do xs 232 3067 l st M = am_j2 st fun x y r => am_nx 3068 l (.int (lg_cmp x y) :: r) M := rfl
theorem xi_232_3068 : am_do xs 232 3068 l st M = am_i1 st fun x r => am_nx (if x = 0 then 3073 else 3071) l r M := rfl
theorem xi_232_3071 : am_do xs 232 3071 l st M = am_nx 3072 l (.int 0 :: st) M := rfl
theorem xi_232_3072 : am_do xs 232 3072 l st M = am_rti st 2 := rfl
theorem xi_232_3073 : am_do xs 232 3073 l st M = am_nx 3089 l st M := rfl
theorem xi_232_3076 : am_do xs 232 3076 l st M = am_lda (am_lg l 1) 3077 l st M := rfl
theorem xi_232_3077 : am_do xs 232 3077 l st M = am_inv 1 1 (.retAddr 7) st M := rfl
theorem xt_232_3077 : am_to 232 3077 = 79 := rfl
theorem xi_232_3080 : am_do xs 232 3080 l st M = am_lda (am_lg l 2) 3081 l st M := rfl
theorem xi_232_3081 : am_do xs 232 3081 l st M = am_inv 1 1 (.retAddr 8) st M := rfl
theorem xt_232_3081 : am_to 232 3081 = 188 := rfl
theorem xi_232_3084 : am_do xs 232 3084 l st M = am_i2 st fun x y r => am_nx (if x = y then 3089 else 3087) l r M := rfl
theorem xi_232_3087 : am_do xs 232 3087 l st M = am_nx 3088 l (.int 0 :: st) M := rfl
theorem xi_232_3088 : am_do xs 232 3088 l st M = am_rti st 2 := rfl
theorem xi_232_3089 : am_do xs 232 3089 l st M = am_inc (am_lg l 5) 5 4 3092 l st M := rfl
theorem xi_232_3092 : am_do xs 232 3092 l st M = am_nx 28 l st M := rfl
theorem xi_232_3095 : am_do xs 232 3095 l st M = am_nx 3096 l (.int 1 :: st) M := rfl
theorem xi_232_3096 : am_do xs 232 3096 l st M = am_rti st 2 := rfl
end
