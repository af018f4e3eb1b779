section
variable {xs : Option (Nat × (Nat → Int32))} {l : am_L} {st : List Value} {M : am_M}
theorem xi_103_0 : am_do xs 103 0 l st M = am_lda (am_lg l 0) 1 l st M := rfl
theorem xi_103_1 : am_do xs 103 1 l st M = am_a1 st fun _ r => if 8 < am_wt r then none else am_nx 4 l r M := rfl
theorem xi_103_4 : am_do xs 103 4 l st M = am_lda (am_lg l 0) 5 l st M := rfl
theorem xi_103_5 : am_do xs 103 5 l st M = am_nx 7 l (.int 20 :: st) M := rfl
theorem xi_103_7 : am_do xs 103 7 l st M = am_i1 st fun n r => if n < 0 ∨ 100000 < n.toNatClampNeg then none else am_nx 9 l (.ref M.1 :: r) (am_new M n.toNatClampNeg (am_na 0 n.toNatClampNeg)) := rfl
theorem xi_103_9 : am_do xs 103 9 l st M = am_put st 8 4 4 12 l M := rfl
theorem xi_103_12 : am_do xs 103 12 l st M = am_lda (am_lg l 0) 13 l st M := rfl
theorem xi_103_13 : am_do xs 103 13 l st M = am_nx 15 l (.int 20 :: st) M := rfl
theorem xi_103_15 : am_do xs 103 15 l st M = am_i1 st fun n r => if n < 0 ∨ 100000 < n.toNatClampNeg then none else am_nx 17 l (.ref M.1 :: r) (am_new M n.toNatClampNeg (am_na 0 n.toNatClampNeg)) := rfl
theorem xi_103_17 : am_do xs 103 17 l st M = am_put st 8 5 4 20 l M := rfl
theorem xi_103_20 : am_do xs 103 20 l st M = am_lda (am_lg l 0) 21 l st M := rfl
theorem xi_103_21 : am_do xs 103 21 l st M = am_nx 23 l (.int 10 :: st) M := rfl
theorem xi_103_23 : am_do xs 103 23 l st M = am_i1 st fun n r => if n < 0 ∨ 100000 < n.toNatClampNeg then none else am_nx 25 l (.ref M.1 :: r) (am_new M n.toNatClampNeg (am_na 1 n.toNatClampNeg)) := rfl
theorem xi_103_25 : am_do xs 103 25 l st M = am_put st 8 11 4 28 l M := rfl
theorem xi_103_28 : am_do xs 103 28 l st M = am_lda (am_lg l 0) 29 l st M := rfl
theorem xi_103_29 : am_do xs 103 29 l st M = am_nx 31 l (.int 10 :: st) M := rfl
theorem xi_103_31 : am_do xs 103 31 l st M = am_i1 st fun n r => if n < 0 ∨ 100000 < n.toNatClampNeg then none else am_nx 33 l (.ref M.1 :: r) (am_new M n.toNatClampNeg (am_na 1 n.toNatClampNeg)) := rfl
theorem xi_103_33 : am_do xs 103 33 l st M = am_put st 8 12 4 36 l M := rfl
theorem xi_103_36 : am_do xs 103 36 l st M = am_lda (am_lg l 0) 37 l st M := rfl
theorem xi_103_37 : am_do xs 103 37 l st M = am_nx 39 l (.int 6 :: st) M := rfl
theorem xi_103_39 : am_do xs 103 39 l st M = am_i1 st fun n r => if n < 0 ∨ 100000 < n.toNatClampNeg then none else am_nx 41 l (.ref M.1 :: r) (am_new M n.toNatClampNeg (am_na 1 n.toNatClampNeg)) := rfl
theorem xi_103_41 : am_do xs 103 41 l st M = am_put st 8 13 4 44 l M := rfl
theorem xi_103_44 : am_do xs 103 44 l st M = am_lda (am_lg l 0) 45 l st M := rfl
theorem xi_103_45 : am_do xs 103 45 l st M = am_nx 47 l (.int 10 :: st) M := rfl
theorem xi_103_47 : am_do xs 103 47 l st M = am_i1 st fun n r => if n < 0 ∨ 100000 < n.toNatClampNeg then none else am_nx 49 l (.ref M.1 :: r) (am_new M n.toNatClampNeg (am_na 0 n.toNatClampNeg)) := rfl
theorem xi_103_49 : am_do xs 103 49 l st M = am_put st 8 14 4 52 l M := rfl
theorem xi_103_52 : am_do xs 103 52 l st M = am_lda (am_lg l 0) 53 l st M := rfl
theorem xi_103_53 : am_do xs 103 53 l st M = am_nx 55 l (.int 100 :: st) M := rfl
theorem xi_103_55 : am_do xs 103 55 l st M = am_put st 8 18 0 58 l M := rfl
theorem xi_103_58 : am_do xs 103 58 l st M = am_lda (am_lg l 0) 59 l st M := rfl
theorem xi_103_59 : am_do xs 103 59 l st M = am_nx 61 l (.int 6 :: st) M := rfl
theorem xi_103_61 : am_do xs 103 61 l st M = am_i1 st fun n r => if n < 0 ∨ 100000 < n.toNatClampNeg then none else am_nx 63 l (.ref M.1 :: r) (am_new M n.toNatClampNeg (am_na 1 n.toNatClampNeg)) := rfl
theorem xi_103_63 : am_do xs 103 63 l st M = am_put st 8 21 4 66 l M := rfl
theorem xi_103_66 : am_do xs 103 66 l st M = am_lda (am_lg l 0) 67 l st M := rfl
theorem xi_103_67 : am_do xs 103 67 l st M = am_nx 69 l (.int 6 :: st) M := rfl
theorem xi_103_69 : am_do xs 103 69 l st M = am_i1 st fun n r => if n < 0 ∨ 100000 < n.toNatClampNeg then none else am_nx 71 l (.ref M.1 :: r) (am_new M n.toNatClampNeg (am_na 1 n.toNatClampNeg)) := rfl
theorem xi_103_71 : am_do xs 103 71 l st M = am_put st 8 22 4 74 l M := rfl
theorem xi_103_74 : am_do xs 103 74 l st M = am_lda (am_lg l 0) 75 l st M := rfl
theorem xi_103_75 : am_do xs 103 75 l st M = am_nx 77 l (.int 6 :: st) M := rfl
theorem xi_103_77 : am_do xs 103 77 l st M = am_i1 st fun n r => if n < 0 ∨ 100000 < n.toNatClampNeg then none else am_nx 79 l (.ref M.1 :: r) (am_new M n.toNatClampNeg (am_na 0 n.toNatClampNeg)) := rfl
theorem xi_103_79 : am_do xs 103 79 l st M = am_put st 8 23 4 82 l M := rfl
theorem xi_103_82 : am_do xs 103 82 l st M = am_lda (am_lg l 0) 83 l st M := rfl
theorem xi_103_83 : am_do xs 103 83 l st M = am_nx 84 l (.int (-1) :: st) M := rfl
theorem xi_103_84 : am_do xs 103 84 l st M = am_put st 8 24 0 87 l M := rfl
theorem xi_103_87 : am_do xs 103 87 l st M = am_lda (am_lg l 0) 88 l st M := rfl
theorem xi_103_88 : am_do xs 103 88 l st M = am_nx 90 l (.int 20 :: st) M := rfl
theorem xi_103_90 : am_do xs 103 90 l st M = am_i1 st fun n r => if n < 0 ∨ 100000 < n.toNatClampNeg then none else am_nx 92 l (.ref M.1 :: r) (am_new M n.toNatClampNeg (am_na 0 n.toNatClampNeg)) := rfl
theorem xi_103_92 : am_do xs 103 92 l st M = am_put st 8 27 4 95 l M := rfl
theorem xi_103_95 : am_do xs 103 95 l st M = am_lda (am_lg l 0) 96 l st M := rfl
theorem xi_103_96 : am_do xs 103 96 l st M = am_nx 98 l (.int 20 :: st) M := rfl
theorem xi_103_98 : am_do xs 103 98 l st M = am_i1 st fun n r => if n < 0 ∨ 100000 < n.toNatClampNeg then none else am_nx 100 l (.ref M.1 :: r) (am_new M n.toNatClampNeg (am_na 0 n.toNatClampNeg)) := rfl
theorem xi_103_100 : am_do xs 103 100 l st M = am_put st 8 28 4 103 l M := rfl
theorem xi_103_103 : am_do xs 103 103 l st M = am_lda (am_lg l 0) 104 l st M := rfl
theorem xi_103_104 : am_do xs 103 104 l st M = am_nx 106 l (.int 20 :: st) M := rfl
theorem xi_103_106 : am_do xs 103 106 l st M = am_i1 st fun n r => if n < 0 ∨ 100000 < n.toNatClampNeg then none else am_nx 108 l (.ref M.1 :: r) (am_new M n.toNatClampNeg (am_na 0 n.toNatClampNeg)) := rfl
theorem xi_103_108 : am_do xs 103 108 l st M = am_put st 8 29 4 111 l M := rfl
theorem xi_103_111 : am_do xs 103 111 l st M = am_lda (am_lg l 0) 112 l st M := rfl
theorem xi_103_112 : am_do xs 103 112 l st M = am_nx 114 l (.int 120 :: st) M := rfl
theorem xi_103_114 : am_do xs 103 114 l st M = am_i1 st fun n r => if n < 0 ∨ 100000 < n.toNatClampNeg then none else am_nx 116 l (.ref M.1 :: r) (am_new M n.toNatClampNeg (am_na 1 n.toNatClampNeg)) := rfl
theorem xi_103_116 : am_do xs 103 116 l st M = am_put st 8 30 4 119 l M := rfl
theorem xi_103_119 : am_do xs 103 119 l st M = am_lda (am_lg l 0) 120 l st M := rfl
theorem xi_103_120 : am_do xs 103 120 l st M = am_nx 122 l (.int 20 :: st) M := rfl
theorem xi_103_122 : am_do xs 103 122 l st M = am_i1 st fun n r => if n < 0 ∨ 100000 < n.toNatClampNeg then none else am_nx 124 l (.ref M.1 :: r) (am_new M n.toNatClampNeg (am_na 1 n.toNatClampNeg)) := rfl
theorem xi_103_124 : am_do xs 103 124 l st M = am_put st 8 31 4 127 l M := rfl
theorem xi_103_127 : am_do xs 103 127 l st M = am_lda (am_lg l 0) 128 l st M := rfl
theorem xi_103_128 : am_do xs 103 128 l st M = am_nx 130 l (.int 20 :: st) M := rfl
theorem xi_103_130 : am_do xs 103 130 l st M = am_i1 st fun n r => if n < 0 ∨ 100000 < n.toNatClampNeg then none else am_nx 132 l (.ref M.1 :: r) (am_new M n.toNatClampNeg (am_na 1 n.toNatClampNeg)) := rfl
theorem xi_103_132 : am_do xs 103 132 l st M = am_put st 8 32 4 135 l M := rfl
theorem xi_103_135 : am_do xs 103 135 l st M = am_lda (am_lg l 0) 136 l st M := rfl
theorem xi_103_136 : am_do xs 103 136 l st M = am_nx 138 l (.int 20 :: st) M := rfl
theorem xi_103_138 : am_do xs 103 138 l st M = am_i1 st fun n r => if n < 0 ∨ 100000 < n.toNatClampNeg then none else am_nx 140 l (.ref M.1 :: r) (am_new M n.toNatClampNeg (am_na 1 n.toNatClampNeg)) := rfl
theorem xi_103_140 : am_do xs 103 140 l st M = am_put st 8 33 4 143 l M := rfl
theorem xi_103_143 : am_do xs 103 143 l st M = am_lda (am_lg l 0) 144 l st M := rfl
theorem xi_103_144 : am_do xs 103 144 l st M = am_nx 146 l (.int 20 :: st) M := rfl
theorem xi_103_146 : am_do xs 103 146 l st M = am_i1 st fun n r => if n < 0 ∨ 100000 < n.toNatClampNeg then none else am_nx 148 l (.ref M.1 :: r) (am_new M n.toNatClampNeg (am_na 2 n.toNatClampNeg)) := rfl
theorem xi_103_148 : am_do xs 103 148 l st M = am_put st 8 34 4 151 l M := rfl
theorem xi_103_151 : am_do xs 103 151 l st M = am_lda (am_lg l 0) 152 l st M := rfl
theorem xi_103_152 : am_do xs 103 152 l st M = am_nx 154 l (.int 100 :: st) M := rfl
theorem xi_103_154 : am_do xs 103 154 l st M = am_i1 st fun n r => if n < 0 ∨ 100000 < n.toNatClampNeg then none else am_nx 156 l (.ref M.1 :: r) (am_new M n.toNatClampNeg (am_na 0 n.toNatClampNeg)) := rfl
theorem xi_103_156 : am_do xs 103 156 l st M = am_put st 8 35 4 159 l M := rfl
theorem xi_103_159 : am_do xs 103 159 l st M = am_lda (am_lg l 0) 160 l st M := rfl
theorem xi_103_160 : am_do xs 103 160 l st M = am_nx 162 l (.int 100 :: st) M := rfl
theorem xi_103_162 : am_do xs 103 162 l st M = am_i1 st fun n r => if n < 0 ∨ 100000 < n.toNatClampNeg then none else am_nx 164 l (.ref M.1 :: r) (am_new M n.toNatClampNeg (am_na 0 n.toNatClampNeg)) := rfl
theorem xi_103_164 : am_do xs 103 164 l st M = am_put st 8 36 4 167 l M := rfl
theorem xi_103_167 : am_do xs 103 167 l st M = am_lda (am_lg l 0) 168 l st M := rfl
theorem xi_103_168 : am_do xs 103 168 l st M = am_nx 171 l (.int 600 :: st) M := rfl
theorem xi_103_171 : am_do xs 103 171 l st M = am_i1 st fun n r => if n < 0 ∨ 100000 < n.toNatClampNeg then none else am_nx 173 l (.ref M.1 :: r) (am_new M n.toNatClampNeg (am_na 0 n.toNatClampNeg)) := rfl
theorem xi_103_173 : am_do xs 103 173 l st M = am_put st 8 37 4 176 l M := rfl
theorem xi_103_176 : am_do xs 103 176 l st M = am_lda (am_lg l 0) 177 l st M := rfl
theorem xi_103_177 : am_do xs 103 177 l st M = am_nx 179 l (.int 100 :: st) M := rfl
theorem xi_103_179 : am_do xs 103 179 l st M = am_i1 st fun n r => if n < 0 ∨ 100000 < n.toNatClampNeg then none else am_nx 181 l (.ref M.1 :: r) (am_new M n.toNatClampNeg (am_na 1 n.toNatClampNeg)) := rfl
theorem xi_103_181 : am_do xs 103 181 l st M = am_put st 8 38 4 184 l M := rfl
theorem xi_103_184 : am_do xs 103 184 l st M = am_lda (am_lg l 0) 185 l st M := rfl
theorem xi_103_185 : am_do xs 103 185 l st M = am_nx 188 l (.long 1000 :: st) M := rfl
theorem xi_103_188 : am_do xs 103 188 l st M = am_put st 8 40 1 191 l M := rfl
theorem xi_103_191 : am_do xs 103 191 l st M = am_lda (am_lg l 0) 192 l st M := rfl
theorem xi_103_192 : am_do xs 103 192 l st M = am_nx 194 l (.int 10 :: st) M := rfl
theorem xi_103_194 : am_do xs 103 194 l st M = am_put st 8 41 0 197 l M := rfl
theorem xi_103_197 : am_do xs 103 197 l st M = am_rtv st := rfl
theorem xi_104_0 : am_do xs 104 0 l st M = am_lda (am_lg l 0) 1 l st M := rfl
theorem xi_104_1 : am_do xs 104 1 l st M = am_a1 st fun o r => (am_gf (am_f M o) 8 0).bind fun w => am_nx 4 l (w :: r) M := rfl
theorem xi_104_4 : am_do xs 104 4 l st M = am_rti st 0 := rfl
theorem xi_105_0 : am_do xs 105 0 l st M = am_ldj (am_lg l 0) 1 l st M := rfl
theorem xi_105_1 : am_do xs 105 1 l st M = am_ldj (am_lg l 2) 2 l st M := rfl
theorem xi_105_2 : am_do xs 105 2 l st M = am_j2 st fun x y r => am_nx 3 l (.int (lg_cmp x y) :: r) M := rfl
theorem xi_105_3 : am_do xs 105 3 l st M = am_i1 st fun x r => am_nx (if x < 0 then 17 else 6) l r M := rfl
theorem xi_105_6 : am_do xs 105 6 l st M = am_ldj (am_lg l 0) 7 l st M := rfl
theorem xi_105_7 : am_do xs 105 7 l st M = am_ldj (am_lg l 4) 9 l st M := rfl
theorem xi_105_9 : am_do xs 105 9 l st M = am_j2 st fun x y r => am_nx 10 l (.int (lg_cmp x y) :: r) M := rfl
theorem xi_105_10 : am_do xs 105 10 l st M = am_i1 st fun x r => am_nx (if 0 < x then 17 else 13) l r M := rfl
theorem xi_105_13 : am_do xs 105 13 l st M = am_nx 14 l (.int 1 :: st) M := rfl
theorem xi_105_14 : am_do xs 105 14 l st M = am_nx 18 l st M := rfl
theorem xi_105_17 : am_do xs 105 17 l st M = am_nx 18 l (.int 0 :: st) M := rfl
theorem xi_105_18 : am_do xs 105 18 l st M = am_rti st 2 := rfl
theorem xi_106_0 : am_do xs 106 0 l st M = am_ldi (am_lg l 1) 1 l st M := rfl
theorem xi_106_1 : am_do xs 106 1 l st M = am_i1 st fun x r => am_nx (if ¬ x = 0 then 16 else 4) l r M := rfl
theorem xi_106_4 : am_do xs 106 4 l st M = am_lda (am_lg l 0) 5 l st M := rfl
theorem xi_106_5 : am_do xs 106 5 l st M = am_a1 st fun o r => (am_gf (am_f M o) 8 0).bind fun w => am_nx 8 l (w :: r) M := rfl
theorem xi_106_8 : am_do xs 106 8 l st M = am_i1 st fun x r => am_nx (if ¬ x = 0 then 16 else 11) l r M := rfl
theorem xi_106_11 : am_do xs 106 11 l st M = am_lda (am_lg l 0) 12 l st M := rfl
theorem xi_106_12 : am_do xs 106 12 l st M = am_ldi (am_lg l 2) 13 l st M := rfl
theorem xi_106_13 : am_do xs 106 13 l st M = am_put st 8 0 0 16 l M := rfl
theorem xi_106_16 : am_do xs 106 16 l st M = am_lda (am_lg l 0) 17 l st M := rfl
theorem xi_106_17 : am_do xs 106 17 l st M = am_a1 st fun o r => (am_gf (am_f M o) 8 0).bind fun w => am_nx 20 l (w :: r) M := rfl
theorem xi_106_20 : am_do xs 106 20 l st M = am_i1 st fun x r => am_nx (if ¬ x = 0 then 27 else 23) l r M := rfl
theorem xi_106_23 : am_do xs 106 23 l st M = am_nx 24 l (.int 1 :: st) M := rfl
theorem xi_106_24 : am_do xs 106 24 l st M = am_nx 28 l st M := rfl
theorem xi_106_27 : am_do xs 106 27 l st M = am_nx 28 l (.int 0 :: st) M := rfl
theorem xi_106_28 : am_do xs 106 28 l st M = am_rti st 2 := rfl
theorem xi_107_0 : am_do xs 107 0 l st M = am_ldj (am_lg l 0) 1 l st M := rfl
theorem xi_107_1 : am_do xs 107 1 l st M = am_ldj (am_lg l 2) 2 l st M := rfl
theorem xi_107_2 : am_do xs 107 2 l st M = am_j2 st fun x y r => if y = 0 then none else am_nx 3 l (.long (x / y) :: r) M := rfl
theorem xi_107_3 : am_do xs 107 3 l st M = am_j1 st fun x r => am_nx 5 (am_s2 l 4 (.long x)) r M := rfl
theorem xi_107_5 : am_do xs 107 5 l st M = am_ldj (am_lg l 0) 6 l st M := rfl
theorem xi_107_6 : am_do xs 107 6 l st M = am_ldj (am_lg l 2) 7 l st M := rfl
theorem xi_107_7 : am_do xs 107 7 l st M = am_j2 st fun x y r => if y = 0 then none else am_nx 8 l (.long (x - x / y * y) :: r) M := rfl
theorem xi_107_8 : am_do xs 107 8 l st M = am_nx 9 l (.long 0 :: st) M := rfl
theorem xi_107_9 : am_do xs 107 9 l st M = am_j2 st fun x y r => am_nx 10 l (.int (lg_cmp x y) :: r) M := rfl
theorem xi_107_10 : am_do xs 107 10 l st M = am_i1 st fun x r => am_nx (if 0 ≤ x then 20 else 13) l r M := rfl
theorem xi_107_13 : am_do xs 107 13 l st M = am_ldj (am_lg l 4) 15 l st M := rfl
theorem xi_107_15 : am_do xs 107 15 l st M = am_nx 16 l (.long 1 :: st) M := rfl
theorem xi_107_16 : am_do xs 107 16 l st M = am_j2 st fun x y r => am_nx 17 l (.long (x - y) :: r) M := rfl
theorem xi_107_17 : am_do xs 107 17 l st M = am_nx 22 l st M := rfl
theorem xi_107_20 : am_do xs 107 20 l st M = am_ldj (am_lg l 4) 22 l st M := rfl
theorem xi_107_22 : am_do xs 107 22 l st M = am_rtj st := rfl
theorem xi_108_0 : am_do xs 108 0 l st M = am_nx 3 l (.long 2 :: st) M := rfl
theorem xi_108_3 : am_do xs 108 3 l st M = am_ldj (am_lg l 0) 4 l st M := rfl
theorem xi_108_4 : am_do xs 108 4 l st M = am_j2 st fun x y r => am_nx 5 l (.long (x * y) :: r) M := rfl
theorem xi_108_5 : am_do xs 108 5 l st M = am_ldj (am_lg l 2) 6 l st M := rfl
theorem xi_108_6 : am_do xs 108 6 l st M = am_j2 st fun x y r => am_nx 7 l (.long (x + y) :: r) M := rfl
theorem xi_108_7 : am_do xs 108 7 l st M = am_nx 10 l (.long 2 :: st) M := rfl
theorem xi_108_10 : am_do xs 108 10 l st M = am_ldj (am_lg l 2) 11 l st M := rfl
theorem xi_108_11 : am_do xs 108 11 l st M = am_j2 st fun x y r => am_nx 12 l (.long (x * y) :: r) M := rfl
theorem xi_108_12 : am_do xs 108 12 l st M = am_inv 0 2 (.retAddr 8) st M := rfl
theorem xt_108_12 : am_to 108 12 = 107 := rfl
theorem xi_108_15 : am_do xs 108 15 l st M = am_rtj st := rfl
theorem xi_109_0 : am_do xs 109 0 l st M = am_lda (am_lg l 0) 1 l st M := rfl
theorem xi_109_1 : am_do xs 109 1 l st M = am_nx 2 l (.int 0 :: st) M := rfl
theorem xi_109_2 : am_do xs 109 2 l st M = am_put st 8 0 0 5 l M := rfl
theorem xi_109_5 : am_do xs 109 5 l st M = am_lda (am_lg l 0) 6 l st M := rfl
theorem xi_109_6 : am_do xs 109 6 l st M = am_ldj (am_lg l 1) 7 l st M := rfl
theorem xi_109_7 : am_do xs 109 7 l st M = am_nx 8 l (.long 0 :: st) M := rfl
theorem xi_109_8 : am_do xs 109 8 l st M = am_nx 11 l (.long 10000000000000 :: st) M := rfl
theorem xi_109_11 : am_do xs 109 11 l st M = am_inv 0 3 (.retAddr 8) st M := rfl
theorem xt_109_11 : am_to 109 11 = 105 := rfl
theorem xi_109_14 : am_do xs 109 14 l st M = am_i1 st fun x r => am_nx (if x = 0 then 35 else 17) l r M := rfl
theorem xi_109_17 : am_do xs 109 17 l st M = am_ldi (am_lg l 3) 18 l st M := rfl
theorem xi_109_18 : am_do xs 109 18 l st M = am_i1 st fun x r => am_nx 19 l (.long x.toInt64 :: r) M := rfl
theorem xi_109_19 : am_do xs 109 19 l st M = am_nx 22 l (.long (-10000000) :: st) M := rfl
theorem xi_109_22 : am_do xs 109 22 l st M = am_nx 25 l (.long 10000000 :: st) M := rfl
theorem xi_109_25 : am_do xs 109 25 l st M = am_inv 0 3 (.retAddr 8) st M := rfl
theorem xt_109_25 : am_to 109 25 = 105 := rfl
theorem xi_109_28 : am_do xs 109 28 l st M = am_i1 st fun x r => am_nx (if x = 0 then 35 else 31) l r M := rfl
theorem xi_109_31 : am_do xs 109 31 l st M = am_nx 32 l (.int 1 :: st) M := rfl
theorem xi_109_32 : am_do xs 109 32 l st M = am_nx 36 l st M := rfl
theorem xi_109_35 : am_do xs 109 35 l st M = am_nx 36 l (.int 0 :: st) M := rfl
theorem xi_109_36 : am_do xs 109 36 l st M = am_nx 37 l (.int 1 :: st) M := rfl
theorem xi_109_37 : am_do xs 109 37 l st M = am_inv 1 3 (.retAddr 8) st M := rfl
theorem xt_109_37 : am_to 109 37 = 106 := rfl
theorem xi_109_40 : am_do xs 109 40 l st M = am_i1 st fun x r => am_nx (if x = 0 then 64 else 43) l r M := rfl
theorem xi_109_43 : am_do xs 109 43 l st M = am_lda (am_lg l 0) 44 l st M := rfl
theorem xi_109_44 : am_do xs 109 44 l st M = am_lda (am_lg l 0) 45 l st M := rfl
theorem xi_109_45 : am_do xs 109 45 l st M = am_a1 st fun o r => (am_gf (am_f M o) 8 24).bind fun w => am_nx 48 l (w :: r) M := rfl
theorem xi_109_48 : am_do xs 109 48 l st M = am_nx 49 l (.int (-1) :: st) M := rfl
theorem xi_109_49 : am_do xs 109 49 l st M = am_i2 st fun x y r => am_nx (if ¬ x = y then 56 else 52) l r M := rfl
theorem xi_109_52 : am_do xs 109 52 l st M = am_nx 53 l (.int 1 :: st) M := rfl
theorem xi_109_53 : am_do xs 109 53 l st M = am_nx 57 l st M := rfl
theorem xi_109_56 : am_do xs 109 56 l st M = am_nx 57 l (.int 0 :: st) M := rfl
theorem xi_109_57 : am_do xs 109 57 l st M = am_nx 58 l (.int 2 :: st) M := rfl
theorem xi_109_58 : am_do xs 109 58 l st M = am_inv 1 3 (.retAddr 8) st M := rfl
theorem xt_109_58 : am_to 109 58 = 106 := rfl
theorem xi_109_61 : am_do xs 109 61 l st M = am_i1 st fun x r => am_nx (if ¬ x = 0 then 65 else 64) l r M := rfl
theorem xi_109_64 : am_do xs 109 64 l st M = am_rtv st := rfl
theorem xi_109_65 : am_do xs 109 65 l st M = am_lda (am_lg l 0) 66 l st M := rfl
theorem xi_109_66 : am_do xs 109 66 l st M = am_ldj (am_lg l 1) 67 l st M := rfl
theorem xi_109_67 : am_do xs 109 67 l st M = am_put st 8 1 1 70 l M := rfl
theorem xi_109_70 : am_do xs 109 70 l st M = am_lda (am_lg l 0) 71 l st M := rfl
theorem xi_109_71 : am_do xs 109 71 l st M = am_ldi (am_lg l 3) 72 l st M := rfl
theorem xi_109_72 : am_do xs 109 72 l st M = am_put st 8 2 0 75 l M := rfl
theorem xi_109_75 : am_do xs 109 75 l st M = am_rtv st := rfl
theorem xi_110_0 : am_do xs 110 0 l st M = am_lda (am_lg l 0) 1 l st M := rfl
theorem xi_110_1 : am_do xs 110 1 l st M = am_nx 2 l (.int 0 :: st) M := rfl
theorem xi_110_2 : am_do xs 110 2 l st M = am_put st 8 0 0 5 l M := rfl
theorem xi_110_5 : am_do xs 110 5 l st M = am_lda (am_lg l 0) 6 l st M := rfl
theorem xi_110_6 : am_do xs 110 6 l st M = am_ldi (am_lg l 1) 7 l st M := rfl
theorem xi_110_7 : am_do xs 110 7 l st M = am_i1 st fun x r => am_nx 8 l (.long x.toInt64 :: r) M := rfl
theorem xi_110_8 : am_do xs 110 8 l st M = am_nx 9 l (.long 1 :: st) M := rfl
theorem xi_110_9 : am_do xs 110 9 l st M = am_nx 12 l (.long 1000 :: st) M := rfl
theorem xi_110_12 : am_do xs 110 12 l st M = am_inv 0 3 (.retAddr 8) st M := rfl
theorem xt_110_12 : am_to 110 12 = 105 := rfl
theorem xi_110_15 : am_do xs 110 15 l st M = am_i1 st fun x r => am_nx (if x = 0 then 36 else 18) l r M := rfl
theorem xi_110_18 : am_do xs 110 18 l st M = am_ldi (am_lg l 2) 19 l st M := rfl
theorem xi_110_19 : am_do xs 110 19 l st M = am_i1 st fun x r => am_nx 20 l (.long x.toInt64 :: r) M := rfl
theorem xi_110_20 : am_do xs 110 20 l st M = am_nx 23 l (.long (-10000) :: st) M := rfl
theorem xi_110_23 : am_do xs 110 23 l st M = am_nx 26 l (.long 10000 :: st) M := rfl
theorem xi_110_26 : am_do xs 110 26 l st M = am_inv 0 3 (.retAddr 8) st M := rfl
theorem xt_110_26 : am_to 110 26 = 105 := rfl
theorem xi_110_29 : am_do xs 110 29 l st M = am_i1 st fun x r => am_nx (if x = 0 then 36 else 32) l r M := rfl
theorem xi_110_32 : am_do xs 110 32 l st M = am_nx 33 l (.int 1 :: st) M := rfl
theorem xi_110_33 : am_do xs 110 33 l st M = am_nx 37 l st M := rfl
theorem xi_110_36 : am_do xs 110 36 l st M = am_nx 37 l (.int 0 :: st) M := rfl
theorem xi_110_37 : am_do xs 110 37 l st M = am_nx 38 l (.int 1 :: st) M := rfl
theorem xi_110_38 : am_do xs 110 38 l st M = am_inv 1 3 (.retAddr 8) st M := rfl
theorem xt_110_38 : am_to 110 38 = 106 := rfl
theorem xi_110_41 : am_do xs 110 41 l st M = am_i1 st fun x r => am_nx (if x = 0 then 66 else 44) l r M := rfl
theorem xi_110_44 : am_do xs 110 44 l st M = am_lda (am_lg l 0) 45 l st M := rfl
theorem xi_110_45 : am_do xs 110 45 l st M = am_lda (am_lg l 0) 46 l st M := rfl
theorem xi_110_46 : am_do xs 110 46 l st M = am_a1 st fun o r => (am_gf (am_f M o) 8 6).bind fun w => am_nx 49 l (w :: r) M := rfl
theorem xi_110_49 : am_do xs 110 49 l st M = am_nx 51 l (.int 20 :: st) M := rfl
theorem xi_110_51 : am_do xs 110 51 l st M = am_i2 st fun x y r => am_nx (if y ≤ x then 58 else 54) l r M := rfl
theorem xi_110_54 : am_do xs 110 54 l st M = am_nx 55 l (.int 1 :: st) M := rfl
theorem xi_110_55 : am_do xs 110 55 l st M = am_nx 59 l st M := rfl
theorem xi_110_58 : am_do xs 110 58 l st M = am_nx 59 l (.int 0 :: st) M := rfl
theorem xi_110_59 : am_do xs 110 59 l st M = am_nx 60 l (.int 2 :: st) M := rfl
theorem xi_110_60 : am_do xs 110 60 l st M = am_inv 1 3 (.retAddr 8) st M := rfl
theorem xt_110_60 : am_to 110 60 = 106 := rfl
theorem xi_110_63 : am_do xs 110 63 l st M = am_i1 st fun x r => am_nx (if ¬ x = 0 then 68 else 66) l r M := rfl
theorem xi_110_66 : am_do xs 110 66 l st M = am_nx 67 l (.int 0 :: st) M := rfl
theorem xi_110_67 : am_do xs 110 67 l st M = am_rti st 0 := rfl
theorem xi_110_68 : am_do xs 110 68 l st M = am_lda (am_lg l 0) 69 l st M := rfl
theorem xi_110_69 : am_do xs 110 69 l st M = am_a1 st fun o r => (am_gf (am_f M o) 8 4).bind fun w => am_nx 72 l (w :: r) M := rfl
theorem xi_110_72 : am_do xs 110 72 l st M = am_lda (am_lg l 0) 73 l st M := rfl
theorem xi_110_73 : am_do xs 110 73 l st M = am_a1 st fun o r => (am_gf (am_f M o) 8 6).bind fun w => am_nx 76 l (w :: r) M := rfl
theorem xi_110_76 : am_do xs 110 76 l st M = am_ldi (am_lg l 1) 77 l st M := rfl
theorem xi_110_77 : am_do xs 110 77 l st M = am_via st fun w i o r => (am_wi (am_f M o) 0 i w).bind fun e => am_nx 78 l r (am_set M o e) := rfl
theorem xi_110_78 : am_do xs 110 78 l st M = am_lda (am_lg l 0) 79 l st M := rfl
theorem xi_110_79 : am_do xs 110 79 l st M = am_a1 st fun o r => (am_gf (am_f M o) 8 5).bind fun w => am_nx 82 l (w :: r) M := rfl
theorem xi_110_82 : am_do xs 110 82 l st M = am_lda (am_lg l 0) 83 l st M := rfl
theorem xi_110_83 : am_do xs 110 83 l st M = am_a1 st fun o r => (am_gf (am_f M o) 8 6).bind fun w => am_nx 86 l (w :: r) M := rfl
theorem xi_110_86 : am_do xs 110 86 l st M = am_ldi (am_lg l 2) 87 l st M := rfl
theorem xi_110_87 : am_do xs 110 87 l st M = am_via st fun w i o r => (am_wi (am_f M o) 0 i w).bind fun e => am_nx 88 l r (am_set M o e) := rfl
theorem xi_110_88 : am_do xs 110 88 l st M = am_lda (am_lg l 0) 89 l st M := rfl
theorem xi_110_89 : am_do xs 110 89 l st M = am_dup st 90 l M := rfl
theorem xi_110_90 : am_do xs 110 90 l st M = am_a1 st fun o r => (am_gf (am_f M o) 8 6).bind fun w => am_nx 93 l (w :: r) M := rfl
theorem xi_110_93 : am_do xs 110 93 l st M = am_nx 94 l (.int 1 :: st) M := rfl
theorem xi_110_94 : am_do xs 110 94 l st M = am_i2 st fun x y r => am_nx 95 l (.int (x + y) :: r) M := rfl
theorem xi_110_95 : am_do xs 110 95 l st M = am_put st 8 6 0 98 l M := rfl
theorem xi_110_98 : am_do xs 110 98 l st M = am_lda (am_lg l 0) 99 l st M := rfl
theorem xi_110_99 : am_do xs 110 99 l st M = am_a1 st fun o r => (am_gf (am_f M o) 8 6).bind fun w => am_nx 102 l (w :: r) M := rfl
theorem xi_110_102 : am_do xs 110 102 l st M = am_rti st 0 := rfl
theorem xi_111_0 : am_do xs 111 0 l st M = am_lda (am_lg l 0) 1 l st M := rfl
theorem xi_111_1 : am_do xs 111 1 l st M = am_nx 2 l (.int 0 :: st) M := rfl
theorem xi_111_2 : am_do xs 111 2 l st M = am_put st 8 0 0 5 l M := rfl
theorem xi_111_5 : am_do xs 111 5 l st M = am_lda (am_lg l 0) 6 l st M := rfl
theorem xi_111_6 : am_do xs 111 6 l st M = am_a1 st fun o r => (am_gf (am_f M o) 8 6).bind fun w => am_nx 9 l (w :: r) M := rfl
theorem xi_111_9 : am_do xs 111 9 l st M = am_i1 st fun x r => am_nx 10 (am_s1 l 1 (.int x)) r M := rfl
theorem xi_111_10 : am_do xs 111 10 l st M = am_lda (am_lg l 0) 11 l st M := rfl
theorem xi_111_11 : am_do xs 111 11 l st M = am_nx 12 l (.int 0 :: st) M := rfl
theorem xi_111_12 : am_do xs 111 12 l st M = am_put st 8 6 0 15 l M := rfl
theorem xi_111_15 : am_do xs 111 15 l st M = am_ldi (am_lg l 1) 16 l st M := rfl
theorem xi_111_16 : am_do xs 111 16 l st M = am_rti st 0 := rfl
theorem xi_112_0 : am_do xs 112 0 l st M = am_ldi (am_lg l 0) 1 l st M := rfl
theorem xi_112_1 : am_do xs 112 1 l st M = am_nx 3 l (.int (-10000000) :: st) M := rfl
theorem xi_112_3 : am_do xs 112 3 l st M = am_i2 st fun x y r => am_nx (if y ≤ x then 11 else 6) l r M := rfl
theorem xi_112_6 : am_do xs 112 6 l st M = am_nx 8 l (.int (-10000000) :: st) M := rfl
theorem xi_112_8 : am_do xs 112 8 l st M = am_nx 23 l st M := rfl
theorem xi_112_11 : am_do xs 112 11 l st M = am_ldi (am_lg l 0) 12 l st M := rfl
theorem xi_112_12 : am_do xs 112 12 l st M = am_nx 14 l (.int 10000000 :: st) M := rfl
theorem xi_112_14 : am_do xs 112 14 l st M = am_i2 st fun x y r => am_nx (if x ≤ y then 22 else 17) l r M := rfl
theorem xi_112_17 : am_do xs 112 17 l st M = am_nx 19 l (.int 10000000 :: st) M := rfl
theorem xi_112_19 : am_do xs 112 19 l st M = am_nx 23 l st M := rfl
theorem xi_112_22 : am_do xs 112 22 l st M = am_ldi (am_lg l 0) 23 l st M := rfl
theorem xi_112_23 : am_do xs 112 23 l st M = am_rti st 0 := rfl
theorem xi_113_0 : am_do xs 113 0 l st M = am_lda (am_lg l 0) 1 l st M := rfl
theorem xi_113_1 : am_do xs 113 1 l st M = am_lda (am_lg l 0) 2 l st M := rfl
theorem xi_113_2 : am_do xs 113 2 l st M = am_a1 st fun o r => (am_gf (am_f M o) 8 1).bind fun w => am_nx 5 l (w :: r) M := rfl
theorem xi_113_5 : am_do xs 113 5 l st M = am_put st 8 7 1 8 l M := rfl
theorem xi_113_8 : am_do xs 113 8 l st M = am_lda (am_lg l 0) 9 l st M := rfl
theorem xi_113_9 : am_do xs 113 9 l st M = am_lda (am_lg l 0) 10 l st M := rfl
theorem xi_113_10 : am_do xs 113 10 l st M = am_a1 st fun o r => (am_gf (am_f M o) 8 2).bind fun w => am_nx 13 l (w :: r) M := rfl
theorem xi_113_13 : am_do xs 113 13 l st M = am_put st 8 8 0 16 l M := rfl
theorem xi_113_16 : am_do xs 113 16 l st M = am_lda (am_lg l 0) 17 l st M := rfl
theorem xi_113_17 : am_do xs 113 17 l st M = am_nx 18 l (.int 0 :: st) M := rfl
theorem xi_113_18 : am_do xs 113 18 l st M = am_put st 8 9 0 21 l M := rfl
theorem xi_113_21 : am_do xs 113 21 l st M = am_lda (am_lg l 0) 22 l st M := rfl
theorem xi_113_22 : am_do xs 113 22 l st M = am_nx 23 l (.int 0 :: st) M := rfl
theorem xi_113_23 : am_do xs 113 23 l st M = am_put st 8 10 0 26 l M := rfl
theorem xi_113_26 : am_do xs 113 26 l st M = am_rtv st := rfl
theorem xi_114_0 : am_do xs 114 0 l st M = am_lda (am_lg l 0) 1 l st M := rfl
theorem xi_114_1 : am_do xs 114 1 l st M = am_a1 st fun o r => (am_gf (am_f M o) 8 9).bind fun w => am_nx 4 l (w :: r) M := rfl
theorem xi_114_4 : am_do xs 114 4 l st M = am_lda (am_lg l 0) 5 l st M := rfl
theorem xi_114_5 : am_do xs 114 5 l st M = am_a1 st fun o r => (am_gf (am_f M o) 8 6).bind fun w => am_nx 8 l (w :: r) M := rfl
theorem xi_114_8 : am_do xs 114 8 l st M = am_i2 st fun x y r => am_nx (if y ≤ x then 15 else 11) l r M := rfl
theorem xi_114_11 : am_do xs 114 11 l st M = am_nx 12 l (.int 1 :: st) M := rfl
theorem xi_114_12 : am_do xs 114 12 l st M = am_nx 16 l st M := rfl
theorem xi_114_15 : am_do xs 114 15 l st M = am_nx 16 l (.int 0 :: st) M := rfl
theorem xi_114_16 : am_do xs 114 16 l st M = am_i1 st fun x r => am_nx 17 (am_s1 l 1 (.int x)) r M := rfl
theorem xi_114_17 : am_do xs 114 17 l st M = am_ldi (am_lg l 1) 18 l st M := rfl
theorem xi_114_18 : am_do xs 114 18 l st M = am_i1 st fun x r => am_nx (if x = 0 then 33 else 21) l r M := rfl
theorem xi_114_21 : am_do xs 114 21 l st M = am_lda (am_lg l 0) 22 l st M := rfl
theorem xi_114_22 : am_do xs 114 22 l st M = am_a1 st fun o r => (am_gf (am_f M o) 8 5).bind fun w => am_nx 25 l (w :: r) M := rfl
theorem xi_114_25 : am_do xs 114 25 l st M = am_lda (am_lg l 0) 26 l st M := rfl
theorem xi_114_26 : am_do xs 114 26 l st M = am_a1 st fun o r => (am_gf (am_f M o) 8 9).bind fun w => am_nx 29 l (w :: r) M := rfl
theorem xi_114_29 : am_do xs 114 29 l st M = am_ial xs st 30 l M := rfl
theorem xi_114_30 : am_do xs 114 30 l st M = am_nx 34 l st M := rfl
theorem xi_114_33 : am_do xs 114 33 l st M = am_nx 34 l (.int 0 :: st) M := rfl
theorem xi_114_34 : am_do xs 114 34 l st M = am_i1 st fun x r => am_nx 35 (am_s1 l 2 (.int x)) r M := rfl
theorem xi_114_35 : am_do xs 114 35 l st M = am_lda (am_lg l 0) 36 l st M := rfl
theorem xi_114_36 : am_do xs 114 36 l st M = am_dup st 37 l M := rfl
theorem xi_114_37 : am_do xs 114 37 l st M = am_a1 st fun o r => (am_gf (am_f M o) 8 7).bind fun w => am_nx 40 l (w :: r) M := rfl
theorem xi_114_40 : am_do xs 114 40 l st M = am_lda (am_lg l 0) 41 l st M := rfl
theorem xi_114_41 : am_do xs 114 41 l st M = am_a1 st fun o r => (am_gf (am_f M o) 8 8).bind fun w => am_nx 44 l (w :: r) M := rfl
theorem xi_114_44 : am_do xs 114 44 l st M = am_i1 st fun x r => am_nx 45 l (.long x.toInt64 :: r) M := rfl
theorem xi_114_45 : am_do xs 114 45 l st M = am_ldi (am_lg l 2) 46 l st M := rfl
theorem xi_114_46 : am_do xs 114 46 l st M = am_i1 st fun x r => am_nx 47 l (.long x.toInt64 :: r) M := rfl
theorem xi_114_47 : am_do xs 114 47 l st M = am_nx 50 l (.long 2 :: st) M := rfl
theorem xi_114_50 : am_do xs 114 50 l st M = am_inv 0 2 (.retAddr 8) st M := rfl
theorem xt_114_50 : am_to 114 50 = 107 := rfl
theorem xi_114_53 : am_do xs 114 53 l st M = am_j2 st fun x y r => am_nx 54 l (.long (x + y) :: r) M := rfl
theorem xi_114_54 : am_do xs 114 54 l st M = am_j2 st fun x y r => am_nx 55 l (.long (x + y) :: r) M := rfl
theorem xi_114_55 : am_do xs 114 55 l st M = am_put st 8 7 1 58 l M := rfl
theorem xi_114_58 : am_do xs 114 58 l st M = am_lda (am_lg l 0) 59 l st M := rfl
theorem xi_114_59 : am_do xs 114 59 l st M = am_lda (am_lg l 0) 60 l st M := rfl
theorem xi_114_60 : am_do xs 114 60 l st M = am_a1 st fun o r => (am_gf (am_f M o) 8 8).bind fun w => am_nx 63 l (w :: r) M := rfl
theorem xi_114_63 : am_do xs 114 63 l st M = am_ldi (am_lg l 2) 64 l st M := rfl
theorem xi_114_64 : am_do xs 114 64 l st M = am_i2 st fun x y r => am_nx 65 l (.int (x + y) :: r) M := rfl
theorem xi_114_65 : am_do xs 114 65 l st M = am_inv 0 1 (.retAddr 8) st M := rfl
theorem xt_114_65 : am_to 114 65 = 112 := rfl
theorem xi_114_68 : am_do xs 114 68 l st M = am_put st 8 8 0 71 l M := rfl
theorem xi_114_71 : am_do xs 114 71 l st M = am_ldi (am_lg l 1) 72 l st M := rfl
theorem xi_114_72 : am_do xs 114 72 l st M = am_i1 st fun x r => am_nx (if ¬ x = 0 then 76 else 75) l r M := rfl
theorem xi_114_75 : am_do xs 114 75 l st M = am_rtv st := rfl
theorem xi_114_76 : am_do xs 114 76 l st M = am_lda (am_lg l 0) 77 l st M := rfl
theorem xi_114_77 : am_do xs 114 77 l st M = am_dup st 78 l M := rfl
theorem xi_114_78 : am_do xs 114 78 l st M = am_a1 st fun o r => (am_gf (am_f M o) 8 10).bind fun w => am_nx 81 l (w :: r) M := rfl
theorem xi_114_81 : am_do xs 114 81 l st M = am_nx 82 l (.int 1 :: st) M := rfl
theorem xi_114_82 : am_do xs 114 82 l st M = am_i2 st fun x y r => am_nx 83 l (.int (x + y) :: r) M := rfl
theorem xi_114_83 : am_do xs 114 83 l st M = am_put st 8 10 0 86 l M := rfl
theorem xi_114_86 : am_do xs 114 86 l st M = am_lda (am_lg l 0) 87 l st M := rfl
theorem xi_114_87 : am_do xs 114 87 l st M = am_a1 st fun o r => (am_gf (am_f M o) 8 10).bind fun w => am_nx 90 l (w :: r) M := rfl
theorem xi_114_90 : am_do xs 114 90 l st M = am_lda (am_lg l 0) 91 l st M := rfl
theorem xi_114_91 : am_do xs 114 91 l st M = am_a1 st fun o r => (am_gf (am_f M o) 8 4).bind fun w => am_nx 94 l (w :: r) M := rfl
theorem xi_114_94 : am_do xs 114 94 l st M = am_lda (am_lg l 0) 95 l st M := rfl
theorem xi_114_95 : am_do xs 114 95 l st M = am_a1 st fun o r => (am_gf (am_f M o) 8 9).bind fun w => am_nx 98 l (w :: r) M := rfl
theorem xi_114_98 : am_do xs 114 98 l st M = am_ial xs st 99 l M := rfl
theorem xi_114_99 : am_do xs 114 99 l st M = am_i2 st fun x y r => am_nx (if y ≤ x then 103 else 102) l r M := rfl
theorem xi_114_102 : am_do xs 114 102 l st M = am_rtv st := rfl
theorem xi_114_103 : am_do xs 114 103 l st M = am_lda (am_lg l 0) 104 l st M := rfl
theorem xi_114_104 : am_do xs 114 104 l st M = am_dup st 105 l M := rfl
theorem xi_114_105 : am_do xs 114 105 l st M = am_a1 st fun o r => (am_gf (am_f M o) 8 9).bind fun w => am_nx 108 l (w :: r) M := rfl
theorem xi_114_108 : am_do xs 114 108 l st M = am_nx 109 l (.int 1 :: st) M := rfl
theorem xi_114_109 : am_do xs 114 109 l st M = am_i2 st fun x y r => am_nx 110 l (.int (x + y) :: r) M := rfl
theorem xi_114_110 : am_do xs 114 110 l st M = am_put st 8 9 0 113 l M := rfl
theorem xi_114_113 : am_do xs 114 113 l st M = am_lda (am_lg l 0) 114 l st M := rfl
theorem xi_114_114 : am_do xs 114 114 l st M = am_nx 115 l (.int 0 :: st) M := rfl
theorem xi_114_115 : am_do xs 114 115 l st M = am_put st 8 10 0 118 l M := rfl
theorem xi_114_118 : am_do xs 114 118 l st M = am_rtv st := rfl
theorem xi_115_0 : am_do xs 115 0 l st M = am_lda (am_lg l 0) 1 l st M := rfl
theorem xi_115_1 : am_do xs 115 1 l st M = am_nx 2 l (.int 0 :: st) M := rfl
theorem xi_115_2 : am_do xs 115 2 l st M = am_put st 8 0 0 5 l M := rfl
theorem xi_115_5 : am_do xs 115 5 l st M = am_lda (am_lg l 0) 6 l st M := rfl
theorem xi_115_6 : am_do xs 115 6 l st M = am_ldi (am_lg l 1) 7 l st M := rfl
theorem xi_115_7 : am_do xs 115 7 l st M = am_i1 st fun x r => am_nx 8 l (.long x.toInt64 :: r) M := rfl
theorem xi_115_8 : am_do xs 115 8 l st M = am_nx 9 l (.long 1 :: st) M := rfl
theorem xi_115_9 : am_do xs 115 9 l st M = am_nx 12 l (.long 1000 :: st) M := rfl
theorem xi_115_12 : am_do xs 115 12 l st M = am_inv 0 3 (.retAddr 8) st M := rfl
theorem xt_115_12 : am_to 115 12 = 105 := rfl
theorem xi_115_15 : am_do xs 115 15 l st M = am_nx 16 l (.int 1 :: st) M := rfl
theorem xi_115_16 : am_do xs 115 16 l st M = am_inv 1 3 (.retAddr 8) st M := rfl
theorem xt_115_16 : am_to 115 16 = 106 := rfl
theorem xi_115_19 : am_do xs 115 19 l st M = am_i1 st fun x r => am_nx (if x = 0 then 46 else 22) l r M := rfl
theorem xi_115_22 : am_do xs 115 22 l st M = am_lda (am_lg l 0) 23 l st M := rfl
theorem xi_115_23 : am_do xs 115 23 l st M = am_lda (am_lg l 0) 24 l st M := rfl
theorem xi_115_24 : am_do xs 115 24 l st M = am_a1 st fun o r => (am_gf (am_f M o) 8 3).bind fun w => am_nx 27 l (w :: r) M := rfl
theorem xi_115_27 : am_do xs 115 27 l st M = am_ldi (am_lg l 1) 28 l st M := rfl
theorem xi_115_28 : am_do xs 115 28 l st M = am_i2 st fun x y r => am_nx 29 l (.int (x + y) :: r) M := rfl
theorem xi_115_29 : am_do xs 115 29 l st M = am_nx 31 l (.int 1000000 :: st) M := rfl
theorem xi_115_31 : am_do xs 115 31 l st M = am_i2 st fun x y r => am_nx (if y < x then 38 else 34) l r M := rfl
theorem xi_115_34 : am_do xs 115 34 l st M = am_nx 35 l (.int 1 :: st) M := rfl
theorem xi_115_35 : am_do xs 115 35 l st M = am_nx 39 l st M := rfl
theorem xi_115_38 : am_do xs 115 38 l st M = am_nx 39 l (.int 0 :: st) M := rfl
theorem xi_115_39 : am_do xs 115 39 l st M = am_nx 40 l (.int 2 :: st) M := rfl
theorem xi_115_40 : am_do xs 115 40 l st M = am_inv 1 3 (.retAddr 8) st M := rfl
theorem xt_115_40 : am_to 115 40 = 106 := rfl
theorem xi_115_43 : am_do xs 115 43 l st M = am_i1 st fun x r => am_nx (if ¬ x = 0 then 48 else 46) l r M := rfl
theorem xi_115_46 : am_do xs 115 46 l st M = am_nx 47 l (.int 0 :: st) M := rfl
theorem xi_115_47 : am_do xs 115 47 l st M = am_rti st 0 := rfl
theorem xi_115_48 : am_do xs 115 48 l st M = am_lda (am_lg l 0) 49 l st M := rfl
theorem xi_115_49 : am_do xs 115 49 l st M = am_inv 1 1 (.retAddr 8) st M := rfl
theorem xt_115_49 : am_to 115 49 = 113 := rfl
theorem xi_115_52 : am_do xs 115 52 l st M = am_nx 53 l (.int 0 :: st) M := rfl
theorem xi_115_53 : am_do xs 115 53 l st M = am_i1 st fun x r => am_nx 54 (am_s1 l 2 (.int x)) r M := rfl
theorem xi_115_54 : am_do xs 115 54 l st M = am_ldi (am_lg l 2) 55 l st M := rfl
theorem xi_115_55 : am_do xs 115 55 l st M = am_ldi (am_lg l 1) 56 l st M := rfl
theorem xi_115_56 : am_do xs 115 56 l st M = am_i2 st fun x y r => am_nx (if y ≤ x then 69 else 59) l r M := rfl
theorem xi_115_59 : am_do xs 115 59 l st M = am_lda (am_lg l 0) 60 l st M := rfl
theorem xi_115_60 : am_do xs 115 60 l st M = am_inv 1 1 (.retAddr 8) st M := rfl
theorem xt_115_60 : am_to 115 60 = 114 := rfl
theorem xi_115_63 : am_do xs 115 63 l st M = am_inc (am_lg l 2) 2 1 66 l st M := rfl
theorem xi_115_66 : am_do xs 115 66 l st M = am_nx 54 l st M := rfl
theorem xi_115_69 : am_do xs 115 69 l st M = am_lda (am_lg l 0) 70 l st M := rfl
theorem xi_115_70 : am_do xs 115 70 l st M = am_lda (am_lg l 0) 71 l st M := rfl
theorem xi_115_71 : am_do xs 115 71 l st M = am_a1 st fun o r => (am_gf (am_f M o) 8 7).bind fun w => am_nx 74 l (w :: r) M := rfl
theorem xi_115_74 : am_do xs 115 74 l st M = am_put st 8 1 1 77 l M := rfl
theorem xi_115_77 : am_do xs 115 77 l st M = am_lda (am_lg l 0) 78 l st M := rfl
theorem xi_115_78 : am_do xs 115 78 l st M = am_lda (am_lg l 0) 79 l st M := rfl
theorem xi_115_79 : am_do xs 115 79 l st M = am_a1 st fun o r => (am_gf (am_f M o) 8 8).bind fun w => am_nx 82 l (w :: r) M := rfl
theorem xi_115_82 : am_do xs 115 82 l st M = am_put st 8 2 0 85 l M := rfl
theorem xi_115_85 : am_do xs 115 85 l st M = am_lda (am_lg l 0) 86 l st M := rfl
theorem xi_115_86 : am_do xs 115 86 l st M = am_dup st 87 l M := rfl
theorem xi_115_87 : am_do xs 115 87 l st M = am_a1 st fun o r => (am_gf (am_f M o) 8 3).bind fun w => am_nx 90 l (w :: r) M := rfl
theorem xi_115_90 : am_do xs 115 90 l st M = am_ldi (am_lg l 1) 91 l st M := rfl
theorem xi_115_91 : am_do xs 115 91 l st M = am_i2 st fun x y r => am_nx 92 l (.int (x + y) :: r) M := rfl
theorem xi_115_92 : am_do xs 115 92 l st M = am_put st 8 3 0 95 l M := rfl
theorem xi_115_95 : am_do xs 115 95 l st M = am_lda (am_lg l 0) 96 l st M := rfl
theorem xi_115_96 : am_do xs 115 96 l st M = am_dup st 97 l M := rfl
theorem xi_115_97 : am_do xs 115 97 l st M = am_a1 st fun o r => (am_gf (am_f M o) 8 6).bind fun w => am_nx 100 l (w :: r) M := rfl
theorem xi_115_100 : am_do xs 115 100 l st M = am_lda (am_lg l 0) 101 l st M := rfl
theorem xi_115_101 : am_do xs 115 101 l st M = am_a1 st fun o r => (am_gf (am_f M o) 8 9).bind fun w => am_nx 104 l (w :: r) M := rfl
theorem xi_115_104 : am_do xs 115 104 l st M = am_i2 st fun x y r => am_nx 105 l (.int (x - y) :: r) M := rfl
theorem xi_115_105 : am_do xs 115 105 l st M = am_put st 8 6 0 108 l M := rfl
theorem xi_115_108 : am_do xs 115 108 l st M = am_nx 109 l (.int 0 :: st) M := rfl
theorem xi_115_109 : am_do xs 115 109 l st M = am_i1 st fun x r => am_nx 110 (am_s1 l 2 (.int x)) r M := rfl
theorem xi_115_110 : am_do xs 115 110 l st M = am_ldi (am_lg l 2) 111 l st M := rfl
theorem xi_115_111 : am_do xs 115 111 l st M = am_lda (am_lg l 0) 112 l st M := rfl
theorem xi_115_112 : am_do xs 115 112 l st M = am_a1 st fun o r => (am_gf (am_f M o) 8 6).bind fun w => am_nx 115 l (w :: r) M := rfl
theorem xi_115_115 : am_do xs 115 115 l st M = am_i2 st fun x y r => am_nx (if y ≤ x then 158 else 118) l r M := rfl
theorem xi_115_118 : am_do xs 115 118 l st M = am_lda (am_lg l 0) 119 l st M := rfl
theorem xi_115_119 : am_do xs 115 119 l st M = am_a1 st fun o r => (am_gf (am_f M o) 8 4).bind fun w => am_nx 122 l (w :: r) M := rfl
theorem xi_115_122 : am_do xs 115 122 l st M = am_ldi (am_lg l 2) 123 l st M := rfl
theorem xi_115_123 : am_do xs 115 123 l st M = am_lda (am_lg l 0) 124 l st M := rfl
theorem xi_115_124 : am_do xs 115 124 l st M = am_a1 st fun o r => (am_gf (am_f M o) 8 4).bind fun w => am_nx 127 l (w :: r) M := rfl
theorem xi_115_127 : am_do xs 115 127 l st M = am_ldi (am_lg l 2) 128 l st M := rfl
theorem xi_115_128 : am_do xs 115 128 l st M = am_lda (am_lg l 0) 129 l st M := rfl
theorem xi_115_129 : am_do xs 115 129 l st M = am_a1 st fun o r => (am_gf (am_f M o) 8 9).bind fun w => am_nx 132 l (w :: r) M := rfl
theorem xi_115_132 : am_do xs 115 132 l st M = am_i2 st fun x y r => am_nx 133 l (.int (x + y) :: r) M := rfl
theorem xi_115_133 : am_do xs 115 133 l st M = am_ial xs st 134 l M := rfl
theorem xi_115_134 : am_do xs 115 134 l st M = am_via st fun w i o r => (am_wi (am_f M o) 0 i w).bind fun e => am_nx 135 l r (am_set M o e) := rfl
theorem xi_115_135 : am_do xs 115 135 l st M = am_lda (am_lg l 0) 136 l st M := rfl
theorem xi_115_136 : am_do xs 115 136 l st M = am_a1 st fun o r => (am_gf (am_f M o) 8 5).bind fun w => am_nx 139 l (w :: r) M := rfl
theorem xi_115_139 : am_do xs 115 139 l st M = am_ldi (am_lg l 2) 140 l st M := rfl
theorem xi_115_140 : am_do xs 115 140 l st M = am_lda (am_lg l 0) 141 l st M := rfl
theorem xi_115_141 : am_do xs 115 141 l st M = am_a1 st fun o r => (am_gf (am_f M o) 8 5).bind fun w => am_nx 144 l (w :: r) M := rfl
theorem xi_115_144 : am_do xs 115 144 l st M = am_ldi (am_lg l 2) 145 l st M := rfl
theorem xi_115_145 : am_do xs 115 145 l st M = am_lda (am_lg l 0) 146 l st M := rfl
theorem xi_115_146 : am_do xs 115 146 l st M = am_a1 st fun o r => (am_gf (am_f M o) 8 9).bind fun w => am_nx 149 l (w :: r) M := rfl
theorem xi_115_149 : am_do xs 115 149 l st M = am_i2 st fun x y r => am_nx 150 l (.int (x + y) :: r) M := rfl
theorem xi_115_150 : am_do xs 115 150 l st M = am_ial xs st 151 l M := rfl
theorem xi_115_151 : am_do xs 115 151 l st M = am_via st fun w i o r => (am_wi (am_f M o) 0 i w).bind fun e => am_nx 152 l r (am_set M o e) := rfl
theorem xi_115_152 : am_do xs 115 152 l st M = am_inc (am_lg l 2) 2 1 155 l st M := rfl
theorem xi_115_155 : am_do xs 115 155 l st M = am_nx 110 l st M := rfl
theorem xi_115_158 : am_do xs 115 158 l st M = am_lda (am_lg l 0) 159 l st M := rfl
theorem xi_115_159 : am_do xs 115 159 l st M = am_a1 st fun o r => (am_gf (am_f M o) 8 6).bind fun w => am_nx 162 l (w :: r) M := rfl
theorem xi_115_162 : am_do xs 115 162 l st M = am_i1 st fun x r => am_nx (if x ≤ 0 then 178 else 165) l r M := rfl
theorem xi_115_165 : am_do xs 115 165 l st M = am_lda (am_lg l 0) 166 l st M := rfl
theorem xi_115_166 : am_do xs 115 166 l st M = am_a1 st fun o r => (am_gf (am_f M o) 8 4).bind fun w => am_nx 169 l (w :: r) M := rfl
theorem xi_115_169 : am_do xs 115 169 l st M = am_nx 170 l (.int 0 :: st) M := rfl
theorem xi_115_170 : am_do xs 115 170 l st M = am_dup2 st 171 l M := rfl
theorem xi_115_171 : am_do xs 115 171 l st M = am_ial xs st 172 l M := rfl
theorem xi_115_172 : am_do xs 115 172 l st M = am_lda (am_lg l 0) 173 l st M := rfl
theorem xi_115_173 : am_do xs 115 173 l st M = am_a1 st fun o r => (am_gf (am_f M o) 8 10).bind fun w => am_nx 176 l (w :: r) M := rfl
theorem xi_115_176 : am_do xs 115 176 l st M = am_i2 st fun x y r => am_nx 177 l (.int (x - y) :: r) M := rfl
theorem xi_115_177 : am_do xs 115 177 l st M = am_via st fun w i o r => (am_wi (am_f M o) 0 i w).bind fun e => am_nx 178 l r (am_set M o e) := rfl
theorem xi_115_178 : am_do xs 115 178 l st M = am_lda (am_lg l 0) 179 l st M := rfl
theorem xi_115_179 : am_do xs 115 179 l st M = am_a1 st fun o r => (am_gf (am_f M o) 8 3).bind fun w => am_nx 182 l (w :: r) M := rfl
theorem xi_115_182 : am_do xs 115 182 l st M = am_rti st 0 := rfl
theorem xi_116_0 : am_do xs 116 0 l st M = am_lda (am_lg l 0) 1 l st M := rfl
theorem xi_116_1 : am_do xs 116 1 l st M = am_nx 2 l (.int 0 :: st) M := rfl
theorem xi_116_2 : am_do xs 116 2 l st M = am_put st 8 0 0 5 l M := rfl
theorem xi_116_5 : am_do xs 116 5 l st M = am_lda (am_lg l 0) 6 l st M := rfl
theorem xi_116_6 : am_do xs 116 6 l st M = am_a1 st fun o r => (am_gf (am_f M o) 8 3).bind fun w => am_nx 9 l (w :: r) M := rfl
theorem xi_116_9 : am_do xs 116 9 l st M = am_rti st 0 := rfl
theorem xi_117_0 : am_do xs 117 0 l st M = am_lda (am_lg l 0) 1 l st M := rfl
theorem xi_117_1 : am_do xs 117 1 l st M = am_nx 2 l (.int 0 :: st) M := rfl
theorem xi_117_2 : am_do xs 117 2 l st M = am_put st 8 0 0 5 l M := rfl
theorem xi_117_5 : am_do xs 117 5 l st M = am_lda (am_lg l 0) 6 l st M := rfl
theorem xi_117_6 : am_do xs 117 6 l st M = am_a1 st fun o r => (am_gf (am_f M o) 8 1).bind fun w => am_nx 9 l (w :: r) M := rfl
theorem xi_117_9 : am_do xs 117 9 l st M = am_rtj st := rfl
theorem xi_118_0 : am_do xs 118 0 l st M = am_lda (am_lg l 0) 1 l st M := rfl
theorem xi_118_1 : am_do xs 118 1 l st M = am_nx 2 l (.int 0 :: st) M := rfl
theorem xi_118_2 : am_do xs 118 2 l st M = am_put st 8 0 0 5 l M := rfl
theorem xi_118_5 : am_do xs 118 5 l st M = am_lda (am_lg l 0) 6 l st M := rfl
theorem xi_118_6 : am_do xs 118 6 l st M = am_a1 st fun o r => (am_gf (am_f M o) 8 2).bind fun w => am_nx 9 l (w :: r) M := rfl
theorem xi_118_9 : am_do xs 118 9 l st M = am_rti st 0 := rfl
theorem xi_119_0 : am_do xs 119 0 l st M = am_lda (am_lg l 0) 1 l st M := rfl
theorem xi_119_1 : am_do xs 119 1 l st M = am_nx 2 l (.int 0 :: st) M := rfl
theorem xi_119_2 : am_do xs 119 2 l st M = am_put st 8 0 0 5 l M := rfl
theorem xi_119_5 : am_do xs 119 5 l st M = am_lda (am_lg l 0) 6 l st M := rfl
theorem xi_119_6 : am_do xs 119 6 l st M = am_ldi (am_lg l 1) 7 l st M := rfl
theorem xi_119_7 : am_do xs 119 7 l st M = am_i1 st fun x r => am_nx 8 l (.long x.toInt64 :: r) M := rfl
theorem xi_119_8 : am_do xs 119 8 l st M = am_nx 9 l (.long 0 :: st) M := rfl
theorem xi_119_9 : am_do xs 119 9 l st M = am_nx 12 l (.long 1000 :: st) M := rfl
theorem xi_119_12 : am_do xs 119 12 l st M = am_inv 0 3 (.retAddr 8) st M := rfl
theorem xt_119_12 : am_to 119 12 = 105 := rfl
theorem xi_119_15 : am_do xs 119 15 l st M = am_nx 16 l (.int 1 :: st) M := rfl
theorem xi_119_16 : am_do xs 119 16 l st M = am_inv 1 3 (.retAddr 8) st M := rfl
theorem xt_119_16 : am_to 119 16 = 106 := rfl
theorem xi_119_19 : am_do xs 119 19 l st M = am_i1 st fun x r => am_nx (if ¬ x = 0 then 24 else 22) l r M := rfl
theorem xi_119_22 : am_do xs 119 22 l st M = am_nx 23 l (.long 0 :: st) M := rfl
theorem xi_119_23 : am_do xs 119 23 l st M = am_rtj st := rfl
theorem xi_119_24 : am_do xs 119 24 l st M = am_lda (am_lg l 0) 25 l st M := rfl
theorem xi_119_25 : am_do xs 119 25 l st M = am_inv 1 1 (.retAddr 8) st M := rfl
theorem xt_119_25 : am_to 119 25 = 113 := rfl
theorem xi_119_28 : am_do xs 119 28 l st M = am_nx 29 l (.int 0 :: st) M := rfl
theorem xi_119_29 : am_do xs 119 29 l st M = am_i1 st fun x r => am_nx 30 (am_s1 l 2 (.int x)) r M := rfl
theorem xi_119_30 : am_do xs 119 30 l st M = am_ldi (am_lg l 2) 31 l st M := rfl
theorem xi_119_31 : am_do xs 119 31 l st M = am_ldi (am_lg l 1) 32 l st M := rfl
theorem xi_119_32 : am_do xs 119 32 l st M = am_i2 st fun x y r => am_nx (if y ≤ x then 45 else 35) l r M := rfl
theorem xi_119_35 : am_do xs 119 35 l st M = am_lda (am_lg l 0) 36 l st M := rfl
theorem xi_119_36 : am_do xs 119 36 l st M = am_inv 1 1 (.retAddr 8) st M := rfl
theorem xt_119_36 : am_to 119 36 = 114 := rfl
theorem xi_119_39 : am_do xs 119 39 l st M = am_inc (am_lg l 2) 2 1 42 l st M := rfl
theorem xi_119_42 : am_do xs 119 42 l st M = am_nx 30 l st M := rfl
theorem xi_119_45 : am_do xs 119 45 l st M = am_lda (am_lg l 0) 46 l st M := rfl
theorem xi_119_46 : am_do xs 119 46 l st M = am_a1 st fun o r => (am_gf (am_f M o) 8 7).bind fun w => am_nx 49 l (w :: r) M := rfl
theorem xi_119_49 : am_do xs 119 49 l st M = am_rtj st := rfl
theorem xi_120_0 : am_do xs 120 0 l st M = am_lda (am_lg l 0) 1 l st M := rfl
theorem xi_120_1 : am_do xs 120 1 l st M = am_nx 2 l (.int 0 :: st) M := rfl
theorem xi_120_2 : am_do xs 120 2 l st M = am_put st 8 0 0 5 l M := rfl
theorem xi_120_5 : am_do xs 120 5 l st M = am_lda (am_lg l 0) 6 l st M := rfl
theorem xi_120_6 : am_do xs 120 6 l st M = am_ldi (am_lg l 1) 7 l st M := rfl
theorem xi_120_7 : am_do xs 120 7 l st M = am_i1 st fun x r => am_nx 8 l (.long x.toInt64 :: r) M := rfl
theorem xi_120_8 : am_do xs 120 8 l st M = am_nx 9 l (.long 0 :: st) M := rfl
theorem xi_120_9 : am_do xs 120 9 l st M = am_nx 12 l (.long 1000 :: st) M := rfl
theorem xi_120_12 : am_do xs 120 12 l st M = am_inv 0 3 (.retAddr 8) st M := rfl
theorem xt_120_12 : am_to 120 12 = 105 := rfl
theorem xi_120_15 : am_do xs 120 15 l st M = am_nx 16 l (.int 1 :: st) M := rfl
theorem xi_120_16 : am_do xs 120 16 l st M = am_inv 1 3 (.retAddr 8) st M := rfl
theorem xt_120_16 : am_to 120 16 = 106 := rfl
theorem xi_120_19 : am_do xs 120 19 l st M = am_i1 st fun x r => am_nx (if ¬ x = 0 then 24 else 22) l r M := rfl
theorem xi_120_22 : am_do xs 120 22 l st M = am_nx 23 l (.int 0 :: st) M := rfl
theorem xi_120_23 : am_do xs 120 23 l st M = am_rti st 0 := rfl
theorem xi_120_24 : am_do xs 120 24 l st M = am_lda (am_lg l 0) 25 l st M := rfl
theorem xi_120_25 : am_do xs 120 25 l st M = am_inv 1 1 (.retAddr 8) st M := rfl
theorem xt_120_25 : am_to 120 25 = 113 := rfl
theorem xi_120_28 : am_do xs 120 28 l st M = am_nx 29 l (.int 0 :: st) M := rfl
theorem xi_120_29 : am_do xs 120 29 l st M = am_i1 st fun x r => am_nx 30 (am_s1 l 2 (.int x)) r M := rfl
theorem xi_120_30 : am_do xs 120 30 l st M = am_lda (am_lg l 0) 31 l st M := rfl
theorem xi_120_31 : am_do xs 120 31 l st M = am_a1 st fun o r => (am_gf (am_f M o) 8 1).bind fun w => am_nx 34 l (w :: r) M := rfl
theorem xi_120_34 : am_do xs 120 34 l st M = am_j1 st fun x r => am_nx 35 (am_s2 l 3 (.long x)) r M := rfl
theorem xi_120_35 : am_do xs 120 35 l st M = am_nx 36 l (.int 1 :: st) M := rfl
theorem xi_120_36 : am_do xs 120 36 l st M = am_i1 st fun x r => am_nx 38 (am_s1 l 5 (.int x)) r M := rfl
theorem xi_120_38 : am_do xs 120 38 l st M = am_ldi (am_lg l 5) 40 l st M := rfl
theorem xi_120_40 : am_do xs 120 40 l st M = am_ldi (am_lg l 1) 41 l st M := rfl
theorem xi_120_41 : am_do xs 120 41 l st M = am_i2 st fun x y r => am_nx (if y < x then 74 else 44) l r M := rfl
theorem xi_120_44 : am_do xs 120 44 l st M = am_lda (am_lg l 0) 45 l st M := rfl
theorem xi_120_45 : am_do xs 120 45 l st M = am_inv 1 1 (.retAddr 8) st M := rfl
theorem xt_120_45 : am_to 120 45 = 114 := rfl
theorem xi_120_48 : am_do xs 120 48 l st M = am_lda (am_lg l 0) 49 l st M := rfl
theorem xi_120_49 : am_do xs 120 49 l st M = am_a1 st fun o r => (am_gf (am_f M o) 8 7).bind fun w => am_nx 52 l (w :: r) M := rfl
theorem xi_120_52 : am_do xs 120 52 l st M = am_ldj (am_lg l 3) 53 l st M := rfl
theorem xi_120_53 : am_do xs 120 53 l st M = am_j2 st fun x y r => am_nx 54 l (.int (lg_cmp x y) :: r) M := rfl
theorem xi_120_54 : am_do xs 120 54 l st M = am_i1 st fun x r => am_nx (if x < 0 then 60 else 57) l r M := rfl
theorem xi_120_57 : am_do xs 120 57 l st M = am_nx 68 l st M := rfl
theorem xi_120_60 : am_do xs 120 60 l st M = am_ldi (am_lg l 5) 62 l st M := rfl
theorem xi_120_62 : am_do xs 120 62 l st M = am_i1 st fun x r => am_nx 63 (am_s1 l 2 (.int x)) r M := rfl
theorem xi_120_63 : am_do xs 120 63 l st M = am_lda (am_lg l 0) 64 l st M := rfl
theorem xi_120_64 : am_do xs 120 64 l st M = am_a1 st fun o r => (am_gf (am_f M o) 8 7).bind fun w => am_nx 67 l (w :: r) M := rfl
theorem xi_120_67 : am_do xs 120 67 l st M = am_j1 st fun x r => am_nx 68 (am_s2 l 3 (.long x)) r M := rfl
theorem xi_120_68 : am_do xs 120 68 l st M = am_inc (am_lg l 5) 5 1 71 l st M := rfl
theorem xi_120_71 : am_do xs 120 71 l st M = am_nx 38 l st M := rfl
theorem xi_120_74 : am_do xs 120 74 l st M = am_ldi (am_lg l 2) 75 l st M := rfl
theorem xi_120_75 : am_do xs 120 75 l st M = am_rti st 0 := rfl
theorem xi_121_0 : am_do xs 121 0 l st M = am_ldi (am_lg l 0) 1 l st M := rfl
theorem xi_121_1 : am_do xs 121 1 l st M = am_i1 st fun x r => am_nx 2 l (.long x.toInt64 :: r) M := rfl
theorem xi_121_2 : am_do xs 121 2 l st M = am_nx 3 l (.long 0 :: st) M := rfl
theorem xi_121_3 : am_do xs 121 3 l st M = am_nx 6 l (.long 9 :: st) M := rfl
theorem xi_121_6 : am_do xs 121 6 l st M = am_inv 0 3 (.retAddr 8) st M := rfl
theorem xt_121_6 : am_to 121 6 = 105 := rfl
theorem xi_121_9 : am_do xs 121 9 l st M = am_rti st 2 := rfl
theorem xi_122_0 : am_do xs 122 0 l st M = am_lda (am_lg l 0) 1 l st M := rfl
theorem xi_122_1 : am_do xs 122 1 l st M = am_nx 2 l (.int 0 :: st) M := rfl
theorem xi_122_2 : am_do xs 122 2 l st M = am_put st 8 0 0 5 l M := rfl
theorem xi_122_5 : am_do xs 122 5 l st M = am_lda (am_lg l 0) 6 l st M := rfl
theorem xi_122_6 : am_do xs 122 6 l st M = am_ldi (am_lg l 1) 7 l st M := rfl
theorem xi_122_7 : am_do xs 122 7 l st M = am_inv 0 1 (.retAddr 8) st M := rfl
theorem xt_122_7 : am_to 122 7 = 121 := rfl
theorem xi_122_10 : am_do xs 122 10 l st M = am_i1 st fun x r => am_nx (if x = 0 then 28 else 13) l r M := rfl
theorem xi_122_13 : am_do xs 122 13 l st M = am_ldj (am_lg l 2) 14 l st M := rfl
theorem xi_122_14 : am_do xs 122 14 l st M = am_nx 15 l (.long 0 :: st) M := rfl
theorem xi_122_15 : am_do xs 122 15 l st M = am_nx 18 l (.long 1000000000 :: st) M := rfl
theorem xi_122_18 : am_do xs 122 18 l st M = am_inv 0 3 (.retAddr 8) st M := rfl
theorem xt_122_18 : am_to 122 18 = 105 := rfl
theorem xi_122_21 : am_do xs 122 21 l st M = am_i1 st fun x r => am_nx (if x = 0 then 28 else 24) l r M := rfl
theorem xi_122_24 : am_do xs 122 24 l st M = am_nx 25 l (.int 1 :: st) M := rfl
theorem xi_122_25 : am_do xs 122 25 l st M = am_nx 29 l st M := rfl
theorem xi_122_28 : am_do xs 122 28 l st M = am_nx 29 l (.int 0 :: st) M := rfl
theorem xi_122_29 : am_do xs 122 29 l st M = am_nx 30 l (.int 1 :: st) M := rfl
theorem xi_122_30 : am_do xs 122 30 l st M = am_inv 1 3 (.retAddr 8) st M := rfl
theorem xt_122_30 : am_to 122 30 = 106 := rfl
theorem xi_122_33 : am_do xs 122 33 l st M = am_i1 st fun x r => am_nx (if ¬ x = 0 then 38 else 36) l r M := rfl
theorem xi_122_36 : am_do xs 122 36 l st M = am_nx 37 l (.long 0 :: st) M := rfl
theorem xi_122_37 : am_do xs 122 37 l st M = am_rtj st := rfl
theorem xi_122_38 : am_do xs 122 38 l st M = am_lda (am_lg l 0) 39 l st M := rfl
theorem xi_122_39 : am_do xs 122 39 l st M = am_a1 st fun o r => (am_gf (am_f M o) 8 11).bind fun w => am_nx 42 l (w :: r) M := rfl
theorem xi_122_42 : am_do xs 122 42 l st M = am_ldi (am_lg l 1) 43 l st M := rfl
theorem xi_122_43 : am_do xs 122 43 l st M = am_ia st fun i o r => (am_aj (am_f M o) i).bind fun x => am_nx 44 l (.long x :: r) M := rfl
theorem xi_122_44 : am_do xs 122 44 l st M = am_j1 st fun x r => am_nx 46 (am_s2 l 4 (.long x)) r M := rfl
theorem xi_122_46 : am_do xs 122 46 l st M = am_lda (am_lg l 0) 47 l st M := rfl
theorem xi_122_47 : am_do xs 122 47 l st M = am_a1 st fun o r => (am_gf (am_f M o) 8 11).bind fun w => am_nx 50 l (w :: r) M := rfl
theorem xi_122_50 : am_do xs 122 50 l st M = am_ldi (am_lg l 1) 51 l st M := rfl
theorem xi_122_51 : am_do xs 122 51 l st M = am_ldj (am_lg l 2) 52 l st M := rfl
theorem xi_122_52 : am_do xs 122 52 l st M = am_via st fun w i o r => (am_wj (am_f M o) i w).bind fun e => am_nx 53 l r (am_set M o e) := rfl
theorem xi_122_53 : am_do xs 122 53 l st M = am_ldj (am_lg l 4) 55 l st M := rfl
theorem xi_122_55 : am_do xs 122 55 l st M = am_rtj st := rfl
theorem xi_123_0 : am_do xs 123 0 l st M = am_lda (am_lg l 0) 1 l st M := rfl
theorem xi_123_1 : am_do xs 123 1 l st M = am_nx 2 l (.int 0 :: st) M := rfl
theorem xi_123_2 : am_do xs 123 2 l st M = am_put st 8 0 0 5 l M := rfl
theorem xi_123_5 : am_do xs 123 5 l st M = am_lda (am_lg l 0) 6 l st M := rfl
theorem xi_123_6 : am_do xs 123 6 l st M = am_ldi (am_lg l 1) 7 l st M := rfl
theorem xi_123_7 : am_do xs 123 7 l st M = am_inv 0 1 (.retAddr 8) st M := rfl
theorem xt_123_7 : am_to 123 7 = 121 := rfl
theorem xi_123_10 : am_do xs 123 10 l st M = am_nx 11 l (.int 1 :: st) M := rfl
theorem xi_123_11 : am_do xs 123 11 l st M = am_inv 1 3 (.retAddr 8) st M := rfl
theorem xt_123_11 : am_to 123 11 = 106 := rfl
theorem xi_123_14 : am_do xs 123 14 l st M = am_i1 st fun x r => am_nx (if x = 0 then 38 else 17) l r M := rfl
theorem xi_123_17 : am_do xs 123 17 l st M = am_lda (am_lg l 0) 18 l st M := rfl
theorem xi_123_18 : am_do xs 123 18 l st M = am_lda (am_lg l 0) 19 l st M := rfl
theorem xi_123_19 : am_do xs 123 19 l st M = am_a1 st fun o r => (am_gf (am_f M o) 8 24).bind fun w => am_nx 22 l (w :: r) M := rfl
theorem xi_123_22 : am_do xs 123 22 l st M = am_nx 23 l (.int (-1) :: st) M := rfl
theorem xi_123_23 : am_do xs 123 23 l st M = am_i2 st fun x y r => am_nx (if ¬ x = y then 30 else 26) l r M := rfl
theorem xi_123_26 : am_do xs 123 26 l st M = am_nx 27 l (.int 1 :: st) M := rfl
theorem xi_123_27 : am_do xs 123 27 l st M = am_nx 31 l st M := rfl
theorem xi_123_30 : am_do xs 123 30 l st M = am_nx 31 l (.int 0 :: st) M := rfl
theorem xi_123_31 : am_do xs 123 31 l st M = am_nx 32 l (.int 2 :: st) M := rfl
theorem xi_123_32 : am_do xs 123 32 l st M = am_inv 1 3 (.retAddr 8) st M := rfl
theorem xt_123_32 : am_to 123 32 = 106 := rfl
theorem xi_123_35 : am_do xs 123 35 l st M = am_i1 st fun x r => am_nx (if ¬ x = 0 then 40 else 38) l r M := rfl
theorem xi_123_38 : am_do xs 123 38 l st M = am_nx 39 l (.int 0 :: st) M := rfl
theorem xi_123_39 : am_do xs 123 39 l st M = am_rti st 0 := rfl
theorem xi_123_40 : am_do xs 123 40 l st M = am_lda (am_lg l 0) 41 l st M := rfl
theorem xi_123_41 : am_do xs 123 41 l st M = am_a1 st fun o r => (am_gf (am_f M o) 8 16).bind fun w => am_nx 44 l (w :: r) M := rfl
theorem xi_123_44 : am_do xs 123 44 l st M = am_i1 st fun x r => am_nx 45 (am_s1 l 2 (.int x)) r M := rfl
theorem xi_123_45 : am_do xs 123 45 l st M = am_lda (am_lg l 0) 46 l st M := rfl
theorem xi_123_46 : am_do xs 123 46 l st M = am_ldi (am_lg l 1) 47 l st M := rfl
theorem xi_123_47 : am_do xs 123 47 l st M = am_put st 8 16 0 50 l M := rfl
theorem xi_123_50 : am_do xs 123 50 l st M = am_ldi (am_lg l 2) 51 l st M := rfl
theorem xi_123_51 : am_do xs 123 51 l st M = am_rti st 0 := rfl
theorem xi_124_0 : am_do xs 124 0 l st M = am_lda (am_lg l 0) 1 l st M := rfl
theorem xi_124_1 : am_do xs 124 1 l st M = am_nx 2 l (.int 0 :: st) M := rfl
theorem xi_124_2 : am_do xs 124 2 l st M = am_put st 8 0 0 5 l M := rfl
theorem xi_124_5 : am_do xs 124 5 l st M = am_lda (am_lg l 0) 6 l st M := rfl
theorem xi_124_6 : am_do xs 124 6 l st M = am_ldj (am_lg l 1) 7 l st M := rfl
theorem xi_124_7 : am_do xs 124 7 l st M = am_nx 10 l (.long 1000 :: st) M := rfl
theorem xi_124_10 : am_do xs 124 10 l st M = am_nx 13 l (.long 1000000000000 :: st) M := rfl
theorem xi_124_13 : am_do xs 124 13 l st M = am_inv 0 3 (.retAddr 8) st M := rfl
theorem xt_124_13 : am_to 124 13 = 105 := rfl
theorem xi_124_16 : am_do xs 124 16 l st M = am_i1 st fun x r => am_nx (if x = 0 then 46 else 19) l r M := rfl
theorem xi_124_19 : am_do xs 124 19 l st M = am_lda (am_lg l 0) 20 l st M := rfl
theorem xi_124_20 : am_do xs 124 20 l st M = am_a1 st fun o r => (am_gf (am_f M o) 8 17).bind fun w => am_nx 23 l (w :: r) M := rfl
theorem xi_124_23 : am_do xs 124 23 l st M = am_i1 st fun x r => am_nx (if x = 0 then 42 else 26) l r M := rfl
theorem xi_124_26 : am_do xs 124 26 l st M = am_ldj (am_lg l 1) 27 l st M := rfl
theorem xi_124_27 : am_do xs 124 27 l st M = am_lda (am_lg l 0) 28 l st M := rfl
theorem xi_124_28 : am_do xs 124 28 l st M = am_a1 st fun o r => (am_gf (am_f M o) 8 13).bind fun w => am_nx 31 l (w :: r) M := rfl
theorem xi_124_31 : am_do xs 124 31 l st M = am_lda (am_lg l 0) 32 l st M := rfl
theorem xi_124_32 : am_do xs 124 32 l st M = am_a1 st fun o r => (am_gf (am_f M o) 8 17).bind fun w => am_nx 35 l (w :: r) M := rfl
theorem xi_124_35 : am_do xs 124 35 l st M = am_nx 36 l (.int 1 :: st) M := rfl
theorem xi_124_36 : am_do xs 124 36 l st M = am_i2 st fun x y r => am_nx 37 l (.int (x - y) :: r) M := rfl
theorem xi_124_37 : am_do xs 124 37 l st M = am_ia st fun i o r => (am_aj (am_f M o) i).bind fun x => am_nx 38 l (.long x :: r) M := rfl
theorem xi_124_38 : am_do xs 124 38 l st M = am_j2 st fun x y r => am_nx 39 l (.int (lg_cmp x y) :: r) M := rfl
theorem xi_124_39 : am_do xs 124 39 l st M = am_i1 st fun x r => am_nx (if 0 ≤ x then 46 else 42) l r M := rfl
theorem xi_124_42 : am_do xs 124 42 l st M = am_nx 43 l (.int 1 :: st) M := rfl
theorem xi_124_43 : am_do xs 124 43 l st M = am_nx 47 l st M := rfl
theorem xi_124_46 : am_do xs 124 46 l st M = am_nx 47 l (.int 0 :: st) M := rfl
theorem xi_124_47 : am_do xs 124 47 l st M = am_nx 48 l (.int 1 :: st) M := rfl
theorem xi_124_48 : am_do xs 124 48 l st M = am_inv 1 3 (.retAddr 8) st M := rfl
theorem xt_124_48 : am_to 124 48 = 106 := rfl
theorem xi_124_51 : am_do xs 124 51 l st M = am_i1 st fun x r => am_nx (if x = 0 then 84 else 54) l r M := rfl
theorem xi_124_54 : am_do xs 124 54 l st M = am_lda (am_lg l 0) 55 l st M := rfl
theorem xi_124_55 : am_do xs 124 55 l st M = am_lda (am_lg l 0) 56 l st M := rfl
theorem xi_124_56 : am_do xs 124 56 l st M = am_a1 st fun o r => (am_gf (am_f M o) 8 17).bind fun w => am_nx 59 l (w :: r) M := rfl
theorem xi_124_59 : am_do xs 124 59 l st M = am_nx 61 l (.int 6 :: st) M := rfl
theorem xi_124_61 : am_do xs 124 61 l st M = am_i2 st fun x y r => am_nx (if y ≤ x then 76 else 64) l r M := rfl
theorem xi_124_64 : am_do xs 124 64 l st M = am_lda (am_lg l 0) 65 l st M := rfl
theorem xi_124_65 : am_do xs 124 65 l st M = am_a1 st fun o r => (am_gf (am_f M o) 8 24).bind fun w => am_nx 68 l (w :: r) M := rfl
theorem xi_124_68 : am_do xs 124 68 l st M = am_nx 69 l (.int (-1) :: st) M := rfl
theorem xi_124_69 : am_do xs 124 69 l st M = am_i2 st fun x y r => am_nx (if ¬ x = y then 76 else 72) l r M := rfl
theorem xi_124_72 : am_do xs 124 72 l st M = am_nx 73 l (.int 1 :: st) M := rfl
theorem xi_124_73 : am_do xs 124 73 l st M = am_nx 77 l st M := rfl
theorem xi_124_76 : am_do xs 124 76 l st M = am_nx 77 l (.int 0 :: st) M := rfl
theorem xi_124_77 : am_do xs 124 77 l st M = am_nx 78 l (.int 2 :: st) M := rfl
theorem xi_124_78 : am_do xs 124 78 l st M = am_inv 1 3 (.retAddr 8) st M := rfl
theorem xt_124_78 : am_to 124 78 = 106 := rfl
theorem xi_124_81 : am_do xs 124 81 l st M = am_i1 st fun x r => am_nx (if ¬ x = 0 then 86 else 84) l r M := rfl
theorem xi_124_84 : am_do xs 124 84 l st M = am_nx 85 l (.int 0 :: st) M := rfl
theorem xi_124_85 : am_do xs 124 85 l st M = am_rti st 0 := rfl
theorem xi_124_86 : am_do xs 124 86 l st M = am_lda (am_lg l 0) 87 l st M := rfl
theorem xi_124_87 : am_do xs 124 87 l st M = am_a1 st fun o r => (am_gf (am_f M o) 8 13).bind fun w => am_nx 90 l (w :: r) M := rfl
theorem xi_124_90 : am_do xs 124 90 l st M = am_lda (am_lg l 0) 91 l st M := rfl
theorem xi_124_91 : am_do xs 124 91 l st M = am_a1 st fun o r => (am_gf (am_f M o) 8 17).bind fun w => am_nx 94 l (w :: r) M := rfl
theorem xi_124_94 : am_do xs 124 94 l st M = am_ldj (am_lg l 1) 95 l st M := rfl
theorem xi_124_95 : am_do xs 124 95 l st M = am_via st fun w i o r => (am_wj (am_f M o) i w).bind fun e => am_nx 96 l r (am_set M o e) := rfl
theorem xi_124_96 : am_do xs 124 96 l st M = am_lda (am_lg l 0) 97 l st M := rfl
theorem xi_124_97 : am_do xs 124 97 l st M = am_dup st 98 l M := rfl
theorem xi_124_98 : am_do xs 124 98 l st M = am_a1 st fun o r => (am_gf (am_f M o) 8 17).bind fun w => am_nx 101 l (w :: r) M := rfl
theorem xi_124_101 : am_do xs 124 101 l st M = am_nx 102 l (.int 1 :: st) M := rfl
theorem xi_124_102 : am_do xs 124 102 l st M = am_i2 st fun x y r => am_nx 103 l (.int (x + y) :: r) M := rfl
theorem xi_124_103 : am_do xs 124 103 l st M = am_put st 8 17 0 106 l M := rfl
theorem xi_124_106 : am_do xs 124 106 l st M = am_lda (am_lg l 0) 107 l st M := rfl
theorem xi_124_107 : am_do xs 124 107 l st M = am_a1 st fun o r => (am_gf (am_f M o) 8 17).bind fun w => am_nx 110 l (w :: r) M := rfl
theorem xi_124_110 : am_do xs 124 110 l st M = am_rti st 0 := rfl
theorem xi_125_0 : am_do xs 125 0 l st M = am_lda (am_lg l 0) 1 l st M := rfl
theorem xi_125_1 : am_do xs 125 1 l st M = am_nx 2 l (.int 0 :: st) M := rfl
theorem xi_125_2 : am_do xs 125 2 l st M = am_put st 8 0 0 5 l M := rfl
theorem xi_125_5 : am_do xs 125 5 l st M = am_lda (am_lg l 0) 6 l st M := rfl
theorem xi_125_6 : am_do xs 125 6 l st M = am_lda (am_lg l 0) 7 l st M := rfl
theorem xi_125_7 : am_do xs 125 7 l st M = am_a1 st fun o r => (am_gf (am_f M o) 8 17).bind fun w => am_nx 10 l (w :: r) M := rfl
theorem xi_125_10 : am_do xs 125 10 l st M = am_i1 st fun x r => am_nx (if x ≤ 0 then 25 else 13) l r M := rfl
theorem xi_125_13 : am_do xs 125 13 l st M = am_lda (am_lg l 0) 14 l st M := rfl
theorem xi_125_14 : am_do xs 125 14 l st M = am_a1 st fun o r => (am_gf (am_f M o) 8 24).bind fun w => am_nx 17 l (w :: r) M := rfl
theorem xi_125_17 : am_do xs 125 17 l st M = am_nx 18 l (.int (-1) :: st) M := rfl
theorem xi_125_18 : am_do xs 125 18 l st M = am_i2 st fun x y r => am_nx (if ¬ x = y then 25 else 21) l r M := rfl
theorem xi_125_21 : am_do xs 125 21 l st M = am_nx 22 l (.int 1 :: st) M := rfl
theorem xi_125_22 : am_do xs 125 22 l st M = am_nx 26 l st M := rfl
theorem xi_125_25 : am_do xs 125 25 l st M = am_nx 26 l (.int 0 :: st) M := rfl
theorem xi_125_26 : am_do xs 125 26 l st M = am_nx 27 l (.int 1 :: st) M := rfl
theorem xi_125_27 : am_do xs 125 27 l st M = am_inv 1 3 (.retAddr 8) st M := rfl
theorem xt_125_27 : am_to 125 27 = 106 := rfl
theorem xi_125_30 : am_do xs 125 30 l st M = am_i1 st fun x r => am_nx (if ¬ x = 0 then 35 else 33) l r M := rfl
theorem xi_125_33 : am_do xs 125 33 l st M = am_nx 34 l (.int 0 :: st) M := rfl
theorem xi_125_34 : am_do xs 125 34 l st M = am_rti st 0 := rfl
theorem xi_125_35 : am_do xs 125 35 l st M = am_lda (am_lg l 0) 36 l st M := rfl
theorem xi_125_36 : am_do xs 125 36 l st M = am_dup st 37 l M := rfl
theorem xi_125_37 : am_do xs 125 37 l st M = am_a1 st fun o r => (am_gf (am_f M o) 8 17).bind fun w => am_nx 40 l (w :: r) M := rfl
theorem xi_125_40 : am_do xs 125 40 l st M = am_nx 41 l (.int 1 :: st) M := rfl
theorem xi_125_41 : am_do xs 125 41 l st M = am_i2 st fun x y r => am_nx 42 l (.int (x - y) :: r) M := rfl
theorem xi_125_42 : am_do xs 125 42 l st M = am_put st 8 17 0 45 l M := rfl
theorem xi_125_45 : am_do xs 125 45 l st M = am_lda (am_lg l 0) 46 l st M := rfl
theorem xi_125_46 : am_do xs 125 46 l st M = am_a1 st fun o r => (am_gf (am_f M o) 8 17).bind fun w => am_nx 49 l (w :: r) M := rfl
theorem xi_125_49 : am_do xs 125 49 l st M = am_rti st 0 := rfl
theorem xi_126_0 : am_do xs 126 0 l st M = am_lda (am_lg l 0) 1 l st M := rfl
theorem xi_126_1 : am_do xs 126 1 l st M = am_nx 2 l (.int 0 :: st) M := rfl
theorem xi_126_2 : am_do xs 126 2 l st M = am_put st 8 0 0 5 l M := rfl
theorem xi_126_5 : am_do xs 126 5 l st M = am_lda (am_lg l 0) 6 l st M := rfl
theorem xi_126_6 : am_do xs 126 6 l st M = am_a1 st fun o r => (am_gf (am_f M o) 8 17).bind fun w => am_nx 9 l (w :: r) M := rfl
theorem xi_126_9 : am_do xs 126 9 l st M = am_rti st 0 := rfl
theorem xi_127_0 : am_do xs 127 0 l st M = am_lda (am_lg l 0) 1 l st M := rfl
theorem xi_127_1 : am_do xs 127 1 l st M = am_nx 2 l (.int 0 :: st) M := rfl
theorem xi_127_2 : am_do xs 127 2 l st M = am_put st 8 0 0 5 l M := rfl
theorem xi_127_5 : am_do xs 127 5 l st M = am_lda (am_lg l 0) 6 l st M := rfl
theorem xi_127_6 : am_do xs 127 6 l st M = am_ldi (am_lg l 1) 7 l st M := rfl
theorem xi_127_7 : am_do xs 127 7 l st M = am_i1 st fun x r => am_nx 8 l (.long x.toInt64 :: r) M := rfl
theorem xi_127_8 : am_do xs 127 8 l st M = am_nx 9 l (.long 0 :: st) M := rfl
theorem xi_127_9 : am_do xs 127 9 l st M = am_lda (am_lg l 0) 10 l st M := rfl
theorem xi_127_10 : am_do xs 127 10 l st M = am_a1 st fun o r => (am_gf (am_f M o) 8 17).bind fun w => am_nx 13 l (w :: r) M := rfl
theorem xi_127_13 : am_do xs 127 13 l st M = am_nx 14 l (.int 1 :: st) M := rfl
theorem xi_127_14 : am_do xs 127 14 l st M = am_i2 st fun x y r => am_nx 15 l (.int (x - y) :: r) M := rfl
theorem xi_127_15 : am_do xs 127 15 l st M = am_i1 st fun x r => am_nx 16 l (.long x.toInt64 :: r) M := rfl
theorem xi_127_16 : am_do xs 127 16 l st M = am_inv 0 3 (.retAddr 8) st M := rfl
theorem xt_127_16 : am_to 127 16 = 105 := rfl
theorem xi_127_19 : am_do xs 127 19 l st M = am_nx 20 l (.int 1 :: st) M := rfl
theorem xi_127_20 : am_do xs 127 20 l st M = am_inv 1 3 (.retAddr 8) st M := rfl
theorem xt_127_20 : am_to 127 20 = 106 := rfl
theorem xi_127_23 : am_do xs 127 23 l st M = am_i1 st fun x r => am_nx (if x = 0 then 35 else 26) l r M := rfl
theorem xi_127_26 : am_do xs 127 26 l st M = am_lda (am_lg l 0) 27 l st M := rfl
theorem xi_127_27 : am_do xs 127 27 l st M = am_a1 st fun o r => (am_gf (am_f M o) 8 13).bind fun w => am_nx 30 l (w :: r) M := rfl
theorem xi_127_30 : am_do xs 127 30 l st M = am_ldi (am_lg l 1) 31 l st M := rfl
theorem xi_127_31 : am_do xs 127 31 l st M = am_ia st fun i o r => (am_aj (am_f M o) i).bind fun x => am_nx 32 l (.long x :: r) M := rfl
theorem xi_127_32 : am_do xs 127 32 l st M = am_nx 36 l st M := rfl
theorem xi_127_35 : am_do xs 127 35 l st M = am_nx 36 l (.long 0 :: st) M := rfl
theorem xi_127_36 : am_do xs 127 36 l st M = am_rtj st := rfl
theorem xi_128_0 : am_do xs 128 0 l st M = am_lda (am_lg l 0) 1 l st M := rfl
theorem xi_128_1 : am_do xs 128 1 l st M = am_nx 2 l (.int 0 :: st) M := rfl
theorem xi_128_2 : am_do xs 128 2 l st M = am_put st 8 0 0 5 l M := rfl
theorem xi_128_5 : am_do xs 128 5 l st M = am_lda (am_lg l 0) 6 l st M := rfl
theorem xi_128_6 : am_do xs 128 6 l st M = am_ldi (am_lg l 1) 7 l st M := rfl
theorem xi_128_7 : am_do xs 128 7 l st M = am_i1 st fun x r => am_nx 8 l (.long x.toInt64 :: r) M := rfl
theorem xi_128_8 : am_do xs 128 8 l st M = am_nx 9 l (.long 0 :: st) M := rfl
theorem xi_128_9 : am_do xs 128 9 l st M = am_nx 12 l (.long 30000 :: st) M := rfl
theorem xi_128_12 : am_do xs 128 12 l st M = am_inv 0 3 (.retAddr 8) st M := rfl
theorem xt_128_12 : am_to 128 12 = 105 := rfl
theorem xi_128_15 : am_do xs 128 15 l st M = am_nx 16 l (.int 1 :: st) M := rfl
theorem xi_128_16 : am_do xs 128 16 l st M = am_inv 1 3 (.retAddr 8) st M := rfl
theorem xt_128_16 : am_to 128 16 = 106 := rfl
theorem xi_128_19 : am_do xs 128 19 l st M = am_i1 st fun x r => am_nx (if ¬ x = 0 then 24 else 22) l r M := rfl
theorem xi_128_22 : am_do xs 128 22 l st M = am_nx 23 l (.int 0 :: st) M := rfl
theorem xi_128_23 : am_do xs 128 23 l st M = am_rti st 0 := rfl
theorem xi_128_24 : am_do xs 128 24 l st M = am_lda (am_lg l 0) 25 l st M := rfl
theorem xi_128_25 : am_do xs 128 25 l st M = am_a1 st fun o r => (am_gf (am_f M o) 8 19).bind fun w => am_nx 28 l (w :: r) M := rfl
theorem xi_128_28 : am_do xs 128 28 l st M = am_i1 st fun x r => am_nx 29 (am_s1 l 2 (.int x)) r M := rfl
theorem xi_128_29 : am_do xs 128 29 l st M = am_lda (am_lg l 0) 30 l st M := rfl
theorem xi_128_30 : am_do xs 128 30 l st M = am_ldi (am_lg l 1) 31 l st M := rfl
theorem xi_128_31 : am_do xs 128 31 l st M = am_put st 8 19 0 34 l M := rfl
theorem xi_128_34 : am_do xs 128 34 l st M = am_ldi (am_lg l 2) 35 l st M := rfl
theorem xi_128_35 : am_do xs 128 35 l st M = am_rti st 0 := rfl
theorem xi_129_0 : am_do xs 129 0 l st M = am_lda (am_lg l 0) 1 l st M := rfl
theorem xi_129_1 : am_do xs 129 1 l st M = am_nx 2 l (.int 0 :: st) M := rfl
theorem xi_129_2 : am_do xs 129 2 l st M = am_put st 8 0 0 5 l M := rfl
theorem xi_129_5 : am_do xs 129 5 l st M = am_lda (am_lg l 0) 6 l st M := rfl
theorem xi_129_6 : am_do xs 129 6 l st M = am_a1 st fun o r => (am_gf (am_f M o) 8 20).bind fun w => am_nx 9 l (w :: r) M := rfl
theorem xi_129_9 : am_do xs 129 9 l st M = am_i1 st fun x r => am_nx 10 (am_s1 l 2 (.int x)) r M := rfl
theorem xi_129_10 : am_do xs 129 10 l st M = am_lda (am_lg l 0) 11 l st M := rfl
theorem xi_129_11 : am_do xs 129 11 l st M = am_ldi (am_lg l 1) 12 l st M := rfl
theorem xi_129_12 : am_do xs 129 12 l st M = am_put st 8 20 0 15 l M := rfl
theorem xi_129_15 : am_do xs 129 15 l st M = am_ldi (am_lg l 2) 16 l st M := rfl
theorem xi_129_16 : am_do xs 129 16 l st M = am_rti st 0 := rfl
theorem xi_130_0 : am_do xs 130 0 l st M = am_lda (am_lg l 0) 1 l st M := rfl
theorem xi_130_1 : am_do xs 130 1 l st M = am_nx 2 l (.int 0 :: st) M := rfl
theorem xi_130_2 : am_do xs 130 2 l st M = am_put st 8 0 0 5 l M := rfl
theorem xi_130_5 : am_do xs 130 5 l st M = am_lda (am_lg l 0) 6 l st M := rfl
theorem xi_130_6 : am_do xs 130 6 l st M = am_ldi (am_lg l 1) 7 l st M := rfl
theorem xi_130_7 : am_do xs 130 7 l st M = am_i1 st fun x r => am_nx 8 l (.long x.toInt64 :: r) M := rfl
theorem xi_130_8 : am_do xs 130 8 l st M = am_nx 9 l (.long 1 :: st) M := rfl
theorem xi_130_9 : am_do xs 130 9 l st M = am_nx 12 l (.long 10000 :: st) M := rfl
theorem xi_130_12 : am_do xs 130 12 l st M = am_inv 0 3 (.retAddr 8) st M := rfl
theorem xt_130_12 : am_to 130 12 = 105 := rfl
theorem xi_130_15 : am_do xs 130 15 l st M = am_nx 16 l (.int 1 :: st) M := rfl
theorem xi_130_16 : am_do xs 130 16 l st M = am_inv 1 3 (.retAddr 8) st M := rfl
theorem xt_130_16 : am_to 130 16 = 106 := rfl
theorem xi_130_19 : am_do xs 130 19 l st M = am_i1 st fun x r => am_nx (if x = 0 then 43 else 22) l r M := rfl
theorem xi_130_22 : am_do xs 130 22 l st M = am_lda (am_lg l 0) 23 l st M := rfl
theorem xi_130_23 : am_do xs 130 23 l st M = am_lda (am_lg l 0) 24 l st M := rfl
theorem xi_130_24 : am_do xs 130 24 l st M = am_a1 st fun o r => (am_gf (am_f M o) 8 24).bind fun w => am_nx 27 l (w :: r) M := rfl
theorem xi_130_27 : am_do xs 130 27 l st M = am_nx 28 l (.int (-1) :: st) M := rfl
theorem xi_130_28 : am_do xs 130 28 l st M = am_i2 st fun x y r => am_nx (if ¬ x = y then 35 else 31) l r M := rfl
theorem xi_130_31 : am_do xs 130 31 l st M = am_nx 32 l (.int 1 :: st) M := rfl
theorem xi_130_32 : am_do xs 130 32 l st M = am_nx 36 l st M := rfl
theorem xi_130_35 : am_do xs 130 35 l st M = am_nx 36 l (.int 0 :: st) M := rfl
theorem xi_130_36 : am_do xs 130 36 l st M = am_nx 37 l (.int 2 :: st) M := rfl
theorem xi_130_37 : am_do xs 130 37 l st M = am_inv 1 3 (.retAddr 8) st M := rfl
theorem xt_130_37 : am_to 130 37 = 106 := rfl
theorem xi_130_40 : am_do xs 130 40 l st M = am_i1 st fun x r => am_nx (if ¬ x = 0 then 45 else 43) l r M := rfl
theorem xi_130_43 : am_do xs 130 43 l st M = am_nx 44 l (.int 0 :: st) M := rfl
theorem xi_130_44 : am_do xs 130 44 l st M = am_rti st 0 := rfl
theorem xi_130_45 : am_do xs 130 45 l st M = am_lda (am_lg l 0) 46 l st M := rfl
theorem xi_130_46 : am_do xs 130 46 l st M = am_a1 st fun o r => (am_gf (am_f M o) 8 18).bind fun w => am_nx 49 l (w :: r) M := rfl
theorem xi_130_49 : am_do xs 130 49 l st M = am_i1 st fun x r => am_nx 50 (am_s1 l 2 (.int x)) r M := rfl
theorem xi_130_50 : am_do xs 130 50 l st M = am_lda (am_lg l 0) 51 l st M := rfl
theorem xi_130_51 : am_do xs 130 51 l st M = am_ldi (am_lg l 1) 52 l st M := rfl
theorem xi_130_52 : am_do xs 130 52 l st M = am_put st 8 18 0 55 l M := rfl
theorem xi_130_55 : am_do xs 130 55 l st M = am_ldi (am_lg l 2) 56 l st M := rfl
theorem xi_130_56 : am_do xs 130 56 l st M = am_rti st 0 := rfl
theorem xi_131_0 : am_do xs 131 0 l st M = am_lda (am_lg l 0) 1 l st M := rfl
theorem xi_131_1 : am_do xs 131 1 l st M = am_a1 st fun o r => (am_gf (am_f M o) 8 19).bind fun w => am_nx 4 l (w :: r) M := rfl
theorem xi_131_4 : am_do xs 131 4 l st M = am_i1 st fun x r => am_nx (if ¬ x = 0 then 9 else 7) l r M := rfl
theorem xi_131_7 : am_do xs 131 7 l st M = am_nx 8 l (.int 0 :: st) M := rfl
theorem xi_131_8 : am_do xs 131 8 l st M = am_rti st 0 := rfl
theorem xi_131_9 : am_do xs 131 9 l st M = am_lda (am_lg l 0) 10 l st M := rfl
theorem xi_131_10 : am_do xs 131 10 l st M = am_lda (am_lg l 0) 11 l st M := rfl
theorem xi_131_11 : am_do xs 131 11 l st M = am_a1 st fun o r => (am_gf (am_f M o) 8 20).bind fun w => am_nx 14 l (w :: r) M := rfl
theorem xi_131_14 : am_do xs 131 14 l st M = am_nx 16 l (.int 1103515245 :: st) M := rfl
theorem xi_131_16 : am_do xs 131 16 l st M = am_i2 st fun x y r => am_nx 17 l (.int (x * y) :: r) M := rfl
theorem xi_131_17 : am_do xs 131 17 l st M = am_nx 20 l (.int 12345 :: st) M := rfl
theorem xi_131_20 : am_do xs 131 20 l st M = am_i2 st fun x y r => am_nx 21 l (.int (x + y) :: r) M := rfl
theorem xi_131_21 : am_do xs 131 21 l st M = am_put st 8 20 0 24 l M := rfl
theorem xi_131_24 : am_do xs 131 24 l st M = am_lda (am_lg l 0) 25 l st M := rfl
theorem xi_131_25 : am_do xs 131 25 l st M = am_a1 st fun o r => (am_gf (am_f M o) 8 20).bind fun w => am_nx 28 l (w :: r) M := rfl
theorem xi_131_28 : am_do xs 131 28 l st M = am_nx 30 l (.int 16 :: st) M := rfl
theorem xi_131_30 : am_do xs 131 30 l st M = am_i2 st fun x y r => am_nx 31 l (.int ((x.toUInt32 >>> (y.toUInt32 &&& Int32.toUInt32 31)).toInt32) :: r) M := rfl
theorem xi_131_31 : am_do xs 131 31 l st M = am_nx 32 l (.int 2 :: st) M := rfl
theorem xi_131_32 : am_do xs 131 32 l st M = am_lda (am_lg l 0) 33 l st M := rfl
theorem xi_131_33 : am_do xs 131 33 l st M = am_a1 st fun o r => (am_gf (am_f M o) 8 19).bind fun w => am_nx 36 l (w :: r) M := rfl
theorem xi_131_36 : am_do xs 131 36 l st M = am_i2 st fun x y r => am_nx 37 l (.int (x * y) :: r) M := rfl
theorem xi_131_37 : am_do xs 131 37 l st M = am_nx 38 l (.int 1 :: st) M := rfl
theorem xi_131_38 : am_do xs 131 38 l st M = am_i2 st fun x y r => am_nx 39 l (.int (x + y) :: r) M := rfl
theorem xi_131_39 : am_do xs 131 39 l st M = am_i2 st fun x y r => if y = 0 then none else am_nx 40 l (.int (x - x / y * y) :: r) M := rfl
theorem xi_131_40 : am_do xs 131 40 l st M = am_lda (am_lg l 0) 41 l st M := rfl
theorem xi_131_41 : am_do xs 131 41 l st M = am_a1 st fun o r => (am_gf (am_f M o) 8 19).bind fun w => am_nx 44 l (w :: r) M := rfl
theorem xi_131_44 : am_do xs 131 44 l st M = am_i2 st fun x y r => am_nx 45 l (.int (x - y) :: r) M := rfl
theorem xi_131_45 : am_do xs 131 45 l st M = am_rti st 0 := rfl
theorem xi_132_0 : am_do xs 132 0 l st M = am_ldj (am_lg l 3) 1 l st M := rfl
theorem xi_132_1 : am_do xs 132 1 l st M = am_lda (am_lg l 0) 2 l st M := rfl
theorem xi_132_2 : am_do xs 132 2 l st M = am_a1 st fun o r => (am_gf (am_f M o) 8 11).bind fun w => am_nx 5 l (w :: r) M := rfl
theorem xi_132_5 : am_do xs 132 5 l st M = am_lda (am_lg l 0) 6 l st M := rfl
theorem xi_132_6 : am_do xs 132 6 l st M = am_a1 st fun o r => (am_gf (am_f M o) 8 16).bind fun w => am_nx 9 l (w :: r) M := rfl
theorem xi_132_9 : am_do xs 132 9 l st M = am_ia st fun i o r => (am_aj (am_f M o) i).bind fun x => am_nx 10 l (.long x :: r) M := rfl
theorem xi_132_10 : am_do xs 132 10 l st M = am_j2 st fun x y r => am_nx 11 l (.long (x + y) :: r) M := rfl
theorem xi_132_11 : am_do xs 132 11 l st M = am_lda (am_lg l 0) 12 l st M := rfl
theorem xi_132_12 : am_do xs 132 12 l st M = am_inv 1 1 (.retAddr 8) st M := rfl
theorem xt_132_12 : am_to 132 12 = 131 := rfl
theorem xi_132_15 : am_do xs 132 15 l st M = am_i1 st fun x r => am_nx 16 l (.long x.toInt64 :: r) M := rfl
theorem xi_132_16 : am_do xs 132 16 l st M = am_j2 st fun x y r => am_nx 17 l (.long (x + y) :: r) M := rfl
theorem xi_132_17 : am_do xs 132 17 l st M = am_j1 st fun x r => am_nx 19 (am_s2 l 5 (.long x)) r M := rfl
theorem xi_132_19 : am_do xs 132 19 l st M = am_ldj (am_lg l 5) 21 l st M := rfl
theorem xi_132_21 : am_do xs 132 21 l st M = am_ldj (am_lg l 1) 22 l st M := rfl
theorem xi_132_22 : am_do xs 132 22 l st M = am_ldj (am_lg l 5) 24 l st M := rfl
theorem xi_132_24 : am_do xs 132 24 l st M = am_ldj (am_lg l 1) 25 l st M := rfl
theorem xi_132_25 : am_do xs 132 25 l st M = am_inv 0 2 (.retAddr 8) st M := rfl
theorem xt_132_25 : am_to 132 25 = 107 := rfl
theorem xi_132_28 : am_do xs 132 28 l st M = am_j2 st fun x y r => am_nx 29 l (.long (x * y) :: r) M := rfl
theorem xi_132_29 : am_do xs 132 29 l st M = am_j2 st fun x y r => am_nx 30 l (.long (x - y) :: r) M := rfl
theorem xi_132_30 : am_do xs 132 30 l st M = am_j1 st fun x r => am_nx 32 (am_s2 l 7 (.long x)) r M := rfl
theorem xi_132_32 : am_do xs 132 32 l st M = am_ldj (am_lg l 7) 34 l st M := rfl
theorem xi_132_34 : am_do xs 132 34 l st M = am_nx 37 l (.long 1000 :: st) M := rfl
theorem xi_132_37 : am_do xs 132 37 l st M = am_j2 st fun x y r => am_nx 38 l (.long (x * y) :: r) M := rfl
theorem xi_132_38 : am_do xs 132 38 l st M = am_ldj (am_lg l 1) 39 l st M := rfl
theorem xi_132_39 : am_do xs 132 39 l st M = am_j2 st fun x y r => if y = 0 then none else am_nx 40 l (.long (x / y) :: r) M := rfl
theorem xi_132_40 : am_do xs 132 40 l st M = am_j1 st fun x r => am_nx 41 l (.int x.toInt32 :: r) M := rfl
theorem xi_132_41 : am_do xs 132 41 l st M = am_rti st 0 := rfl
theorem xi_133_0 : am_do xs 133 0 l st M = am_nx 1 l (.int 0 :: st) M := rfl
theorem xi_133_1 : am_do xs 133 1 l st M = am_i1 st fun x r => am_nx 2 (am_s1 l 2 (.int x)) r M := rfl
theorem xi_133_2 : am_do xs 133 2 l st M = am_ldi (am_lg l 2) 3 l st M := rfl
theorem xi_133_3 : am_do xs 133 3 l st M = am_ldi (am_lg l 1) 4 l st M := rfl
theorem xi_133_4 : am_do xs 133 4 l st M = am_i2 st fun x y r => am_nx (if y ≤ x then 74 else 7) l r M := rfl
theorem xi_133_7 : am_do xs 133 7 l st M = am_lda (am_lg l 0) 8 l st M := rfl
theorem xi_133_8 : am_do xs 133 8 l st M = am_a1 st fun o r => (am_gf (am_f M o) 8 23).bind fun w => am_nx 11 l (w :: r) M := rfl
theorem xi_133_11 : am_do xs 133 11 l st M = am_ldi (am_lg l 2) 12 l st M := rfl
theorem xi_133_12 : am_do xs 133 12 l st M = am_ial xs st 13 l M := rfl
theorem xi_133_13 : am_do xs 133 13 l st M = am_i1 st fun x r => am_nx 14 l (.long x.toInt64 :: r) M := rfl
theorem xi_133_14 : am_do xs 133 14 l st M = am_lda (am_lg l 0) 15 l st M := rfl
theorem xi_133_15 : am_do xs 133 15 l st M = am_a1 st fun o r => (am_gf (am_f M o) 8 21).bind fun w => am_nx 18 l (w :: r) M := rfl
theorem xi_133_18 : am_do xs 133 18 l st M = am_ldi (am_lg l 2) 19 l st M := rfl
theorem xi_133_19 : am_do xs 133 19 l st M = am_ia st fun i o r => (am_aj (am_f M o) i).bind fun x => am_nx 20 l (.long x :: r) M := rfl
theorem xi_133_20 : am_do xs 133 20 l st M = am_j2 st fun x y r => am_nx 21 l (.long (x * y) :: r) M := rfl
theorem xi_133_21 : am_do xs 133 21 l st M = am_nx 24 l (.long 1000 :: st) M := rfl
theorem xi_133_24 : am_do xs 133 24 l st M = am_j2 st fun x y r => if y = 0 then none else am_nx 25 l (.long (x / y) :: r) M := rfl
theorem xi_133_25 : am_do xs 133 25 l st M = am_j1 st fun x r => am_nx 26 (am_s2 l 3 (.long x)) r M := rfl
theorem xi_133_26 : am_do xs 133 26 l st M = am_lda (am_lg l 0) 27 l st M := rfl
theorem xi_133_27 : am_do xs 133 27 l st M = am_a1 st fun o r => (am_gf (am_f M o) 8 22).bind fun w => am_nx 30 l (w :: r) M := rfl
theorem xi_133_30 : am_do xs 133 30 l st M = am_ldi (am_lg l 2) 31 l st M := rfl
theorem xi_133_31 : am_do xs 133 31 l st M = am_ldi (am_lg l 2) 32 l st M := rfl
theorem xi_133_32 : am_do xs 133 32 l st M = am_i1 st fun x r => am_nx (if ¬ x = 0 then 39 else 35) l r M := rfl
theorem xi_133_35 : am_do xs 133 35 l st M = am_ldj (am_lg l 3) 36 l st M := rfl
theorem xi_133_36 : am_do xs 133 36 l st M = am_nx 67 l st M := rfl
theorem xi_133_39 : am_do xs 133 39 l st M = am_ldj (am_lg l 3) 40 l st M := rfl
theorem xi_133_40 : am_do xs 133 40 l st M = am_lda (am_lg l 0) 41 l st M := rfl
theorem xi_133_41 : am_do xs 133 41 l st M = am_a1 st fun o r => (am_gf (am_f M o) 8 22).bind fun w => am_nx 44 l (w :: r) M := rfl
theorem xi_133_44 : am_do xs 133 44 l st M = am_ldi (am_lg l 2) 45 l st M := rfl
theorem xi_133_45 : am_do xs 133 45 l st M = am_nx 46 l (.int 1 :: st) M := rfl
theorem xi_133_46 : am_do xs 133 46 l st M = am_i2 st fun x y r => am_nx 47 l (.int (x - y) :: r) M := rfl
theorem xi_133_47 : am_do xs 133 47 l st M = am_ia st fun i o r => (am_aj (am_f M o) i).bind fun x => am_nx 48 l (.long x :: r) M := rfl
theorem xi_133_48 : am_do xs 133 48 l st M = am_ldj (am_lg l 3) 49 l st M := rfl
theorem xi_133_49 : am_do xs 133 49 l st M = am_j2 st fun x y r => am_nx 50 l (.long (x - y) :: r) M := rfl
theorem xi_133_50 : am_do xs 133 50 l st M = am_lda (am_lg l 0) 51 l st M := rfl
theorem xi_133_51 : am_do xs 133 51 l st M = am_a1 st fun o r => (am_gf (am_f M o) 8 21).bind fun w => am_nx 54 l (w :: r) M := rfl
theorem xi_133_54 : am_do xs 133 54 l st M = am_ldi (am_lg l 2) 55 l st M := rfl
theorem xi_133_55 : am_do xs 133 55 l st M = am_ia st fun i o r => (am_aj (am_f M o) i).bind fun x => am_nx 56 l (.long x :: r) M := rfl
theorem xi_133_56 : am_do xs 133 56 l st M = am_inv 0 2 (.retAddr 8) st M := rfl
theorem xt_133_56 : am_to 133 56 = 108 := rfl
theorem xi_133_59 : am_do xs 133 59 l st M = am_lda (am_lg l 0) 60 l st M := rfl
theorem xi_133_60 : am_do xs 133 60 l st M = am_a1 st fun o r => (am_gf (am_f M o) 8 21).bind fun w => am_nx 63 l (w :: r) M := rfl
theorem xi_133_63 : am_do xs 133 63 l st M = am_ldi (am_lg l 2) 64 l st M := rfl
theorem xi_133_64 : am_do xs 133 64 l st M = am_ia st fun i o r => (am_aj (am_f M o) i).bind fun x => am_nx 65 l (.long x :: r) M := rfl
theorem xi_133_65 : am_do xs 133 65 l st M = am_j2 st fun x y r => am_nx 66 l (.long (x * y) :: r) M := rfl
theorem xi_133_66 : am_do xs 133 66 l st M = am_j2 st fun x y r => am_nx 67 l (.long (x + y) :: r) M := rfl
theorem xi_133_67 : am_do xs 133 67 l st M = am_via st fun w i o r => (am_wj (am_f M o) i w).bind fun e => am_nx 68 l r (am_set M o e) := rfl
theorem xi_133_68 : am_do xs 133 68 l st M = am_inc (am_lg l 2) 2 1 71 l st M := rfl
theorem xi_133_71 : am_do xs 133 71 l st M = am_nx 2 l st M := rfl
theorem xi_133_74 : am_do xs 133 74 l st M = am_rtv st := rfl
theorem xi_134_0 : am_do xs 134 0 l st M = am_nx 1 l (.int 0 :: st) M := rfl
theorem xi_134_1 : am_do xs 134 1 l st M = am_i1 st fun x r => am_nx 2 (am_s1 l 2 (.int x)) r M := rfl
theorem xi_134_2 : am_do xs 134 2 l st M = am_ldi (am_lg l 2) 3 l st M := rfl
theorem xi_134_3 : am_do xs 134 3 l st M = am_lda (am_lg l 0) 4 l st M := rfl
theorem xi_134_4 : am_do xs 134 4 l st M = am_a1 st fun o r => (am_gf (am_f M o) 8 15).bind fun w => am_nx 7 l (w :: r) M := rfl
theorem xi_134_7 : am_do xs 134 7 l st M = am_i2 st fun x y r => am_nx (if y ≤ x then 28 else 10) l r M := rfl
theorem xi_134_10 : am_do xs 134 10 l st M = am_lda (am_lg l 0) 11 l st M := rfl
theorem xi_134_11 : am_do xs 134 11 l st M = am_a1 st fun o r => (am_gf (am_f M o) 8 14).bind fun w => am_nx 14 l (w :: r) M := rfl
theorem xi_134_14 : am_do xs 134 14 l st M = am_ldi (am_lg l 2) 15 l st M := rfl
theorem xi_134_15 : am_do xs 134 15 l st M = am_ial xs st 16 l M := rfl
theorem xi_134_16 : am_do xs 134 16 l st M = am_ldi (am_lg l 1) 17 l st M := rfl
theorem xi_134_17 : am_do xs 134 17 l st M = am_i2 st fun x y r => am_nx (if ¬ x = y then 22 else 20) l r M := rfl
theorem xi_134_20 : am_do xs 134 20 l st M = am_nx 21 l (.int 1 :: st) M := rfl
theorem xi_134_21 : am_do xs 134 21 l st M = am_rti st 2 := rfl
theorem xi_134_22 : am_do xs 134 22 l st M = am_inc (am_lg l 2) 2 1 25 l st M := rfl
theorem xi_134_25 : am_do xs 134 25 l st M = am_nx 2 l st M := rfl
theorem xi_134_28 : am_do xs 134 28 l st M = am_nx 29 l (.int 0 :: st) M := rfl
theorem xi_134_29 : am_do xs 134 29 l st M = am_rti st 2 := rfl
theorem xi_135_0 : am_do xs 135 0 l st M = am_lda (am_lg l 0) 1 l st M := rfl
theorem xi_135_1 : am_do xs 135 1 l st M = am_nx 2 l (.int 0 :: st) M := rfl
theorem xi_135_2 : am_do xs 135 2 l st M = am_put st 8 0 0 5 l M := rfl
theorem xi_135_5 : am_do xs 135 5 l st M = am_lda (am_lg l 0) 6 l st M := rfl
theorem xi_135_6 : am_do xs 135 6 l st M = am_ldi (am_lg l 1) 7 l st M := rfl
theorem xi_135_7 : am_do xs 135 7 l st M = am_i1 st fun x r => am_nx 8 l (.long x.toInt64 :: r) M := rfl
theorem xi_135_8 : am_do xs 135 8 l st M = am_nx 9 l (.long 1 :: st) M := rfl
theorem xi_135_9 : am_do xs 135 9 l st M = am_nx 12 l (.long 20 :: st) M := rfl
theorem xi_135_12 : am_do xs 135 12 l st M = am_inv 0 3 (.retAddr 8) st M := rfl
theorem xt_135_12 : am_to 135 12 = 105 := rfl
theorem xi_135_15 : am_do xs 135 15 l st M = am_nx 16 l (.int 1 :: st) M := rfl
theorem xi_135_16 : am_do xs 135 16 l st M = am_inv 1 3 (.retAddr 8) st M := rfl
theorem xt_135_16 : am_to 135 16 = 106 := rfl
theorem xi_135_19 : am_do xs 135 19 l st M = am_i1 st fun x r => am_nx (if x = 0 then 50 else 22) l r M := rfl
theorem xi_135_22 : am_do xs 135 22 l st M = am_lda (am_lg l 0) 23 l st M := rfl
theorem xi_135_23 : am_do xs 135 23 l st M = am_lda (am_lg l 0) 24 l st M := rfl
theorem xi_135_24 : am_do xs 135 24 l st M = am_a1 st fun o r => (am_gf (am_f M o) 8 17).bind fun w => am_nx 27 l (w :: r) M := rfl
theorem xi_135_27 : am_do xs 135 27 l st M = am_i1 st fun x r => am_nx (if x ≤ 0 then 42 else 30) l r M := rfl
theorem xi_135_30 : am_do xs 135 30 l st M = am_lda (am_lg l 0) 31 l st M := rfl
theorem xi_135_31 : am_do xs 135 31 l st M = am_a1 st fun o r => (am_gf (am_f M o) 8 24).bind fun w => am_nx 34 l (w :: r) M := rfl
theorem xi_135_34 : am_do xs 135 34 l st M = am_nx 35 l (.int (-1) :: st) M := rfl
theorem xi_135_35 : am_do xs 135 35 l st M = am_i2 st fun x y r => am_nx (if ¬ x = y then 42 else 38) l r M := rfl
theorem xi_135_38 : am_do xs 135 38 l st M = am_nx 39 l (.int 1 :: st) M := rfl
theorem xi_135_39 : am_do xs 135 39 l st M = am_nx 43 l st M := rfl
theorem xi_135_42 : am_do xs 135 42 l st M = am_nx 43 l (.int 0 :: st) M := rfl
theorem xi_135_43 : am_do xs 135 43 l st M = am_nx 44 l (.int 2 :: st) M := rfl
theorem xi_135_44 : am_do xs 135 44 l st M = am_inv 1 3 (.retAddr 8) st M := rfl
theorem xt_135_44 : am_to 135 44 = 106 := rfl
theorem xi_135_47 : am_do xs 135 47 l st M = am_i1 st fun x r => am_nx (if ¬ x = 0 then 52 else 50) l r M := rfl
theorem xi_135_50 : am_do xs 135 50 l st M = am_nx 51 l (.long 0 :: st) M := rfl
theorem xi_135_51 : am_do xs 135 51 l st M = am_rtj st := rfl
theorem xi_135_52 : am_do xs 135 52 l st M = am_nx 53 l (.long 0 :: st) M := rfl
theorem xi_135_53 : am_do xs 135 53 l st M = am_j1 st fun x r => am_nx 54 (am_s2 l 2 (.long x)) r M := rfl
theorem xi_135_54 : am_do xs 135 54 l st M = am_nx 55 l (.int 0 :: st) M := rfl
theorem xi_135_55 : am_do xs 135 55 l st M = am_i1 st fun x r => am_nx 57 (am_s1 l 4 (.int x)) r M := rfl
theorem xi_135_57 : am_do xs 135 57 l st M = am_ldi (am_lg l 4) 59 l st M := rfl
theorem xi_135_59 : am_do xs 135 59 l st M = am_ldi (am_lg l 1) 60 l st M := rfl
theorem xi_135_60 : am_do xs 135 60 l st M = am_i2 st fun x y r => am_nx (if y ≤ x then 142 else 63) l r M := rfl
theorem xi_135_63 : am_do xs 135 63 l st M = am_nx 64 l (.int 0 :: st) M := rfl
theorem xi_135_64 : am_do xs 135 64 l st M = am_i1 st fun x r => am_nx 66 (am_s1 l 5 (.int x)) r M := rfl
theorem xi_135_66 : am_do xs 135 66 l st M = am_ldi (am_lg l 5) 68 l st M := rfl
theorem xi_135_68 : am_do xs 135 68 l st M = am_lda (am_lg l 0) 69 l st M := rfl
theorem xi_135_69 : am_do xs 135 69 l st M = am_a1 st fun o r => (am_gf (am_f M o) 8 17).bind fun w => am_nx 72 l (w :: r) M := rfl
theorem xi_135_72 : am_do xs 135 72 l st M = am_i2 st fun x y r => am_nx (if y ≤ x then 114 else 75) l r M := rfl
theorem xi_135_75 : am_do xs 135 75 l st M = am_lda (am_lg l 0) 76 l st M := rfl
theorem xi_135_76 : am_do xs 135 76 l st M = am_a1 st fun o r => (am_gf (am_f M o) 8 21).bind fun w => am_nx 79 l (w :: r) M := rfl
theorem xi_135_79 : am_do xs 135 79 l st M = am_ldi (am_lg l 5) 81 l st M := rfl
theorem xi_135_81 : am_do xs 135 81 l st M = am_lda (am_lg l 0) 82 l st M := rfl
theorem xi_135_82 : am_do xs 135 82 l st M = am_a1 st fun o r => (am_gf (am_f M o) 8 13).bind fun w => am_nx 85 l (w :: r) M := rfl
theorem xi_135_85 : am_do xs 135 85 l st M = am_ldi (am_lg l 5) 87 l st M := rfl
theorem xi_135_87 : am_do xs 135 87 l st M = am_ia st fun i o r => (am_aj (am_f M o) i).bind fun x => am_nx 88 l (.long x :: r) M := rfl
theorem xi_135_88 : am_do xs 135 88 l st M = am_via st fun w i o r => (am_wj (am_f M o) i w).bind fun e => am_nx 89 l r (am_set M o e) := rfl
theorem xi_135_89 : am_do xs 135 89 l st M = am_lda (am_lg l 0) 90 l st M := rfl
theorem xi_135_90 : am_do xs 135 90 l st M = am_a1 st fun o r => (am_gf (am_f M o) 8 23).bind fun w => am_nx 93 l (w :: r) M := rfl
theorem xi_135_93 : am_do xs 135 93 l st M = am_ldi (am_lg l 5) 95 l st M := rfl
theorem xi_135_95 : am_do xs 135 95 l st M = am_lda (am_lg l 0) 96 l st M := rfl
theorem xi_135_96 : am_do xs 135 96 l st M = am_lda (am_lg l 0) 97 l st M := rfl
theorem xi_135_97 : am_do xs 135 97 l st M = am_a1 st fun o r => (am_gf (am_f M o) 8 13).bind fun w => am_nx 100 l (w :: r) M := rfl
theorem xi_135_100 : am_do xs 135 100 l st M = am_ldi (am_lg l 5) 102 l st M := rfl
theorem xi_135_102 : am_do xs 135 102 l st M = am_ia st fun i o r => (am_aj (am_f M o) i).bind fun x => am_nx 103 l (.long x :: r) M := rfl
theorem xi_135_103 : am_do xs 135 103 l st M = am_nx 104 l (.long 0 :: st) M := rfl
theorem xi_135_104 : am_do xs 135 104 l st M = am_inv 1 3 (.retAddr 8) st M := rfl
theorem xt_135_104 : am_to 135 104 = 132 := rfl
theorem xi_135_107 : am_do xs 135 107 l st M = am_via st fun w i o r => (am_wi (am_f M o) 0 i w).bind fun e => am_nx 108 l r (am_set M o e) := rfl
theorem xi_135_108 : am_do xs 135 108 l st M = am_inc (am_lg l 5) 5 1 111 l st M := rfl
theorem xi_135_111 : am_do xs 135 111 l st M = am_nx 66 l st M := rfl
theorem xi_135_114 : am_do xs 135 114 l st M = am_lda (am_lg l 0) 115 l st M := rfl
theorem xi_135_115 : am_do xs 135 115 l st M = am_lda (am_lg l 0) 116 l st M := rfl
theorem xi_135_116 : am_do xs 135 116 l st M = am_a1 st fun o r => (am_gf (am_f M o) 8 17).bind fun w => am_nx 119 l (w :: r) M := rfl
theorem xi_135_119 : am_do xs 135 119 l st M = am_inv 1 2 (.retAddr 8) st M := rfl
theorem xt_135_119 : am_to 135 119 = 133 := rfl
theorem xi_135_122 : am_do xs 135 122 l st M = am_ldj (am_lg l 2) 123 l st M := rfl
theorem xi_135_123 : am_do xs 135 123 l st M = am_lda (am_lg l 0) 124 l st M := rfl
theorem xi_135_124 : am_do xs 135 124 l st M = am_a1 st fun o r => (am_gf (am_f M o) 8 22).bind fun w => am_nx 127 l (w :: r) M := rfl
theorem xi_135_127 : am_do xs 135 127 l st M = am_lda (am_lg l 0) 128 l st M := rfl
theorem xi_135_128 : am_do xs 135 128 l st M = am_a1 st fun o r => (am_gf (am_f M o) 8 17).bind fun w => am_nx 131 l (w :: r) M := rfl
theorem xi_135_131 : am_do xs 135 131 l st M = am_nx 132 l (.int 1 :: st) M := rfl
theorem xi_135_132 : am_do xs 135 132 l st M = am_i2 st fun x y r => am_nx 133 l (.int (x - y) :: r) M := rfl
theorem xi_135_133 : am_do xs 135 133 l st M = am_ia st fun i o r => (am_aj (am_f M o) i).bind fun x => am_nx 134 l (.long x :: r) M := rfl
theorem xi_135_134 : am_do xs 135 134 l st M = am_j2 st fun x y r => am_nx 135 l (.long (x + y) :: r) M := rfl
theorem xi_135_135 : am_do xs 135 135 l st M = am_j1 st fun x r => am_nx 136 (am_s2 l 2 (.long x)) r M := rfl
theorem xi_135_136 : am_do xs 135 136 l st M = am_inc (am_lg l 4) 4 1 139 l st M := rfl
theorem xi_135_139 : am_do xs 135 139 l st M = am_nx 57 l st M := rfl
theorem xi_135_142 : am_do xs 135 142 l st M = am_lda (am_lg l 0) 143 l st M := rfl
theorem xi_135_143 : am_do xs 135 143 l st M = am_lda (am_lg l 0) 144 l st M := rfl
theorem xi_135_144 : am_do xs 135 144 l st M = am_a1 st fun o r => (am_gf (am_f M o) 8 16).bind fun w => am_nx 147 l (w :: r) M := rfl
theorem xi_135_147 : am_do xs 135 147 l st M = am_inv 1 2 (.retAddr 8) st M := rfl
theorem xt_135_147 : am_to 135 147 = 134 := rfl
theorem xi_135_150 : am_do xs 135 150 l st M = am_i1 st fun x r => am_nx (if ¬ x = 0 then 176 else 153) l r M := rfl
theorem xi_135_153 : am_do xs 135 153 l st M = am_lda (am_lg l 0) 154 l st M := rfl
theorem xi_135_154 : am_do xs 135 154 l st M = am_a1 st fun o r => (am_gf (am_f M o) 8 14).bind fun w => am_nx 157 l (w :: r) M := rfl
theorem xi_135_157 : am_do xs 135 157 l st M = am_lda (am_lg l 0) 158 l st M := rfl
theorem xi_135_158 : am_do xs 135 158 l st M = am_a1 st fun o r => (am_gf (am_f M o) 8 15).bind fun w => am_nx 161 l (w :: r) M := rfl
theorem xi_135_161 : am_do xs 135 161 l st M = am_lda (am_lg l 0) 162 l st M := rfl
theorem xi_135_162 : am_do xs 135 162 l st M = am_a1 st fun o r => (am_gf (am_f M o) 8 16).bind fun w => am_nx 165 l (w :: r) M := rfl
theorem xi_135_165 : am_do xs 135 165 l st M = am_via st fun w i o r => (am_wi (am_f M o) 0 i w).bind fun e => am_nx 166 l r (am_set M o e) := rfl
theorem xi_135_166 : am_do xs 135 166 l st M = am_lda (am_lg l 0) 167 l st M := rfl
theorem xi_135_167 : am_do xs 135 167 l st M = am_dup st 168 l M := rfl
theorem xi_135_168 : am_do xs 135 168 l st M = am_a1 st fun o r => (am_gf (am_f M o) 8 15).bind fun w => am_nx 171 l (w :: r) M := rfl
theorem xi_135_171 : am_do xs 135 171 l st M = am_nx 172 l (.int 1 :: st) M := rfl
theorem xi_135_172 : am_do xs 135 172 l st M = am_i2 st fun x y r => am_nx 173 l (.int (x + y) :: r) M := rfl
theorem xi_135_173 : am_do xs 135 173 l st M = am_put st 8 15 0 176 l M := rfl
theorem xi_135_176 : am_do xs 135 176 l st M = am_lda (am_lg l 0) 177 l st M := rfl
theorem xi_135_177 : am_do xs 135 177 l st M = am_a1 st fun o r => (am_gf (am_f M o) 8 12).bind fun w => am_nx 180 l (w :: r) M := rfl
theorem xi_135_180 : am_do xs 135 180 l st M = am_lda (am_lg l 0) 181 l st M := rfl
theorem xi_135_181 : am_do xs 135 181 l st M = am_a1 st fun o r => (am_gf (am_f M o) 8 16).bind fun w => am_nx 184 l (w :: r) M := rfl
theorem xi_135_184 : am_do xs 135 184 l st M = am_ldj (am_lg l 2) 185 l st M := rfl
theorem xi_135_185 : am_do xs 135 185 l st M = am_ldi (am_lg l 1) 186 l st M := rfl
theorem xi_135_186 : am_do xs 135 186 l st M = am_i1 st fun x r => am_nx 187 l (.long x.toInt64 :: r) M := rfl
theorem xi_135_187 : am_do xs 135 187 l st M = am_inv 0 2 (.retAddr 8) st M := rfl
theorem xt_135_187 : am_to 135 187 = 107 := rfl
theorem xi_135_190 : am_do xs 135 190 l st M = am_via st fun w i o r => (am_wj (am_f M o) i w).bind fun e => am_nx 191 l r (am_set M o e) := rfl
theorem xi_135_191 : am_do xs 135 191 l st M = am_lda (am_lg l 0) 192 l st M := rfl
theorem xi_135_192 : am_do xs 135 192 l st M = am_a1 st fun o r => (am_gf (am_f M o) 8 12).bind fun w => am_nx 195 l (w :: r) M := rfl
theorem xi_135_195 : am_do xs 135 195 l st M = am_lda (am_lg l 0) 196 l st M := rfl
theorem xi_135_196 : am_do xs 135 196 l st M = am_a1 st fun o r => (am_gf (am_f M o) 8 16).bind fun w => am_nx 199 l (w :: r) M := rfl
theorem xi_135_199 : am_do xs 135 199 l st M = am_ia st fun i o r => (am_aj (am_f M o) i).bind fun x => am_nx 200 l (.long x :: r) M := rfl
theorem xi_135_200 : am_do xs 135 200 l st M = am_rtj st := rfl
theorem xi_136_0 : am_do xs 136 0 l st M = am_lda (am_lg l 0) 1 l st M := rfl
theorem xi_136_1 : am_do xs 136 1 l st M = am_nx 2 l (.int 0 :: st) M := rfl
theorem xi_136_2 : am_do xs 136 2 l st M = am_put st 8 0 0 5 l M := rfl
theorem xi_136_5 : am_do xs 136 5 l st M = am_lda (am_lg l 0) 6 l st M := rfl
theorem xi_136_6 : am_do xs 136 6 l st M = am_ldi (am_lg l 1) 7 l st M := rfl
theorem xi_136_7 : am_do xs 136 7 l st M = am_inv 0 1 (.retAddr 8) st M := rfl
theorem xt_136_7 : am_to 136 7 = 121 := rfl
theorem xi_136_10 : am_do xs 136 10 l st M = am_nx 11 l (.int 1 :: st) M := rfl
theorem xi_136_11 : am_do xs 136 11 l st M = am_inv 1 3 (.retAddr 8) st M := rfl
theorem xt_136_11 : am_to 136 11 = 106 := rfl
theorem xi_136_14 : am_do xs 136 14 l st M = am_i1 st fun x r => am_nx (if x = 0 then 39 else 17) l r M := rfl
theorem xi_136_17 : am_do xs 136 17 l st M = am_lda (am_lg l 0) 18 l st M := rfl
theorem xi_136_18 : am_do xs 136 18 l st M = am_lda (am_lg l 0) 19 l st M := rfl
theorem xi_136_19 : am_do xs 136 19 l st M = am_ldi (am_lg l 1) 20 l st M := rfl
theorem xi_136_20 : am_do xs 136 20 l st M = am_inv 1 2 (.retAddr 8) st M := rfl
theorem xt_136_20 : am_to 136 20 = 134 := rfl
theorem xi_136_23 : am_do xs 136 23 l st M = am_nx 24 l (.int 2 :: st) M := rfl
theorem xi_136_24 : am_do xs 136 24 l st M = am_inv 1 3 (.retAddr 8) st M := rfl
theorem xt_136_24 : am_to 136 24 = 106 := rfl
theorem xi_136_27 : am_do xs 136 27 l st M = am_i1 st fun x r => am_nx (if x = 0 then 39 else 30) l r M := rfl
theorem xi_136_30 : am_do xs 136 30 l st M = am_lda (am_lg l 0) 31 l st M := rfl
theorem xi_136_31 : am_do xs 136 31 l st M = am_a1 st fun o r => (am_gf (am_f M o) 8 12).bind fun w => am_nx 34 l (w :: r) M := rfl
theorem xi_136_34 : am_do xs 136 34 l st M = am_ldi (am_lg l 1) 35 l st M := rfl
theorem xi_136_35 : am_do xs 136 35 l st M = am_ia st fun i o r => (am_aj (am_f M o) i).bind fun x => am_nx 36 l (.long x :: r) M := rfl
theorem xi_136_36 : am_do xs 136 36 l st M = am_nx 40 l st M := rfl
theorem xi_136_39 : am_do xs 136 39 l st M = am_nx 40 l (.long 0 :: st) M := rfl
theorem xi_136_40 : am_do xs 136 40 l st M = am_rtj st := rfl
theorem xi_137_0 : am_do xs 137 0 l st M = am_lda (am_lg l 0) 1 l st M := rfl
theorem xi_137_1 : am_do xs 137 1 l st M = am_nx 2 l (.int 0 :: st) M := rfl
theorem xi_137_2 : am_do xs 137 2 l st M = am_put st 8 0 0 5 l M := rfl
theorem xi_137_5 : am_do xs 137 5 l st M = am_lda (am_lg l 0) 6 l st M := rfl
theorem xi_137_6 : am_do xs 137 6 l st M = am_ldi (am_lg l 1) 7 l st M := rfl
theorem xi_137_7 : am_do xs 137 7 l st M = am_i1 st fun x r => am_nx 8 l (.long x.toInt64 :: r) M := rfl
theorem xi_137_8 : am_do xs 137 8 l st M = am_nx 9 l (.long 0 :: st) M := rfl
theorem xi_137_9 : am_do xs 137 9 l st M = am_lda (am_lg l 0) 10 l st M := rfl
theorem xi_137_10 : am_do xs 137 10 l st M = am_a1 st fun o r => (am_gf (am_f M o) 8 15).bind fun w => am_nx 13 l (w :: r) M := rfl
theorem xi_137_13 : am_do xs 137 13 l st M = am_nx 14 l (.int 1 :: st) M := rfl
theorem xi_137_14 : am_do xs 137 14 l st M = am_i2 st fun x y r => am_nx 15 l (.int (x - y) :: r) M := rfl
theorem xi_137_15 : am_do xs 137 15 l st M = am_i1 st fun x r => am_nx 16 l (.long x.toInt64 :: r) M := rfl
theorem xi_137_16 : am_do xs 137 16 l st M = am_inv 0 3 (.retAddr 8) st M := rfl
theorem xt_137_16 : am_to 137 16 = 105 := rfl
theorem xi_137_19 : am_do xs 137 19 l st M = am_nx 20 l (.int 1 :: st) M := rfl
theorem xi_137_20 : am_do xs 137 20 l st M = am_inv 1 3 (.retAddr 8) st M := rfl
theorem xt_137_20 : am_to 137 20 = 106 := rfl
theorem xi_137_23 : am_do xs 137 23 l st M = am_i1 st fun x r => am_nx (if x = 0 then 35 else 26) l r M := rfl
theorem xi_137_26 : am_do xs 137 26 l st M = am_lda (am_lg l 0) 27 l st M := rfl
theorem xi_137_27 : am_do xs 137 27 l st M = am_a1 st fun o r => (am_gf (am_f M o) 8 14).bind fun w => am_nx 30 l (w :: r) M := rfl
theorem xi_137_30 : am_do xs 137 30 l st M = am_ldi (am_lg l 1) 31 l st M := rfl
theorem xi_137_31 : am_do xs 137 31 l st M = am_ial xs st 32 l M := rfl
theorem xi_137_32 : am_do xs 137 32 l st M = am_nx 36 l st M := rfl
theorem xi_137_35 : am_do xs 137 35 l st M = am_nx 36 l (.int 0 :: st) M := rfl
theorem xi_137_36 : am_do xs 137 36 l st M = am_rti st 0 := rfl
theorem xi_138_0 : am_do xs 138 0 l st M = am_lda (am_lg l 0) 1 l st M := rfl
theorem xi_138_1 : am_do xs 138 1 l st M = am_nx 2 l (.int 0 :: st) M := rfl
theorem xi_138_2 : am_do xs 138 2 l st M = am_put st 8 0 0 5 l M := rfl
theorem xi_138_5 : am_do xs 138 5 l st M = am_lda (am_lg l 0) 6 l st M := rfl
theorem xi_138_6 : am_do xs 138 6 l st M = am_lda (am_lg l 0) 7 l st M := rfl
theorem xi_138_7 : am_do xs 138 7 l st M = am_a1 st fun o r => (am_gf (am_f M o) 8 24).bind fun w => am_nx 10 l (w :: r) M := rfl
theorem xi_138_10 : am_do xs 138 10 l st M = am_nx 11 l (.int (-1) :: st) M := rfl
theorem xi_138_11 : am_do xs 138 11 l st M = am_i2 st fun x y r => am_nx (if ¬ x = y then 34 else 14) l r M := rfl
theorem xi_138_14 : am_do xs 138 14 l st M = am_lda (am_lg l 0) 15 l st M := rfl
theorem xi_138_15 : am_do xs 138 15 l st M = am_a1 st fun o r => (am_gf (am_f M o) 8 17).bind fun w => am_nx 18 l (w :: r) M := rfl
theorem xi_138_18 : am_do xs 138 18 l st M = am_i1 st fun x r => am_nx (if x ≤ 0 then 34 else 21) l r M := rfl
theorem xi_138_21 : am_do xs 138 21 l st M = am_lda (am_lg l 0) 22 l st M := rfl
theorem xi_138_22 : am_do xs 138 22 l st M = am_a1 st fun o r => (am_gf (am_f M o) 8 25).bind fun w => am_nx 25 l (w :: r) M := rfl
theorem xi_138_25 : am_do xs 138 25 l st M = am_nx 27 l (.int 20 :: st) M := rfl
theorem xi_138_27 : am_do xs 138 27 l st M = am_i2 st fun x y r => am_nx (if y ≤ x then 34 else 30) l r M := rfl
theorem xi_138_30 : am_do xs 138 30 l st M = am_nx 31 l (.int 1 :: st) M := rfl
theorem xi_138_31 : am_do xs 138 31 l st M = am_nx 35 l st M := rfl
theorem xi_138_34 : am_do xs 138 34 l st M = am_nx 35 l (.int 0 :: st) M := rfl
theorem xi_138_35 : am_do xs 138 35 l st M = am_nx 36 l (.int 1 :: st) M := rfl
theorem xi_138_36 : am_do xs 138 36 l st M = am_inv 1 3 (.retAddr 8) st M := rfl
theorem xt_138_36 : am_to 138 36 = 106 := rfl
theorem xi_138_39 : am_do xs 138 39 l st M = am_i1 st fun x r => am_nx (if ¬ x = 0 then 44 else 42) l r M := rfl
theorem xi_138_42 : am_do xs 138 42 l st M = am_nx 43 l (.int 0 :: st) M := rfl
theorem xi_138_43 : am_do xs 138 43 l st M = am_rti st 0 := rfl
theorem xi_138_44 : am_do xs 138 44 l st M = am_lda (am_lg l 0) 45 l st M := rfl
theorem xi_138_45 : am_do xs 138 45 l st M = am_a1 st fun o r => (am_gf (am_f M o) 8 25).bind fun w => am_nx 48 l (w :: r) M := rfl
theorem xi_138_48 : am_do xs 138 48 l st M = am_i1 st fun x r => am_nx 49 (am_s1 l 1 (.int x)) r M := rfl
theorem xi_138_49 : am_do xs 138 49 l st M = am_lda (am_lg l 0) 50 l st M := rfl
theorem xi_138_50 : am_do xs 138 50 l st M = am_dup st 51 l M := rfl
theorem xi_138_51 : am_do xs 138 51 l st M = am_a1 st fun o r => (am_gf (am_f M o) 8 25).bind fun w => am_nx 54 l (w :: r) M := rfl
theorem xi_138_54 : am_do xs 138 54 l st M = am_nx 55 l (.int 1 :: st) M := rfl
theorem xi_138_55 : am_do xs 138 55 l st M = am_i2 st fun x y r => am_nx 56 l (.int (x + y) :: r) M := rfl
theorem xi_138_56 : am_do xs 138 56 l st M = am_put st 8 25 0 59 l M := rfl
theorem xi_138_59 : am_do xs 138 59 l st M = am_lda (am_lg l 0) 60 l st M := rfl
theorem xi_138_60 : am_do xs 138 60 l st M = am_ldi (am_lg l 1) 61 l st M := rfl
theorem xi_138_61 : am_do xs 138 61 l st M = am_put st 8 24 0 64 l M := rfl
theorem xi_138_64 : am_do xs 138 64 l st M = am_lda (am_lg l 0) 65 l st M := rfl
theorem xi_138_65 : am_do xs 138 65 l st M = am_a1 st fun o r => (am_gf (am_f M o) 8 27).bind fun w => am_nx 68 l (w :: r) M := rfl
theorem xi_138_68 : am_do xs 138 68 l st M = am_ldi (am_lg l 1) 69 l st M := rfl
theorem xi_138_69 : am_do xs 138 69 l st M = am_lda (am_lg l 0) 70 l st M := rfl
theorem xi_138_70 : am_do xs 138 70 l st M = am_a1 st fun o r => (am_gf (am_f M o) 8 16).bind fun w => am_nx 73 l (w :: r) M := rfl
theorem xi_138_73 : am_do xs 138 73 l st M = am_via st fun w i o r => (am_wi (am_f M o) 0 i w).bind fun e => am_nx 74 l r (am_set M o e) := rfl
theorem xi_138_74 : am_do xs 138 74 l st M = am_lda (am_lg l 0) 75 l st M := rfl
theorem xi_138_75 : am_do xs 138 75 l st M = am_a1 st fun o r => (am_gf (am_f M o) 8 28).bind fun w => am_nx 78 l (w :: r) M := rfl
theorem xi_138_78 : am_do xs 138 78 l st M = am_ldi (am_lg l 1) 79 l st M := rfl
theorem xi_138_79 : am_do xs 138 79 l st M = am_lda (am_lg l 0) 80 l st M := rfl
theorem xi_138_80 : am_do xs 138 80 l st M = am_a1 st fun o r => (am_gf (am_f M o) 8 17).bind fun w => am_nx 83 l (w :: r) M := rfl
theorem xi_138_83 : am_do xs 138 83 l st M = am_via st fun w i o r => (am_wi (am_f M o) 0 i w).bind fun e => am_nx 84 l r (am_set M o e) := rfl
theorem xi_138_84 : am_do xs 138 84 l st M = am_lda (am_lg l 0) 85 l st M := rfl
theorem xi_138_85 : am_do xs 138 85 l st M = am_a1 st fun o r => (am_gf (am_f M o) 8 29).bind fun w => am_nx 88 l (w :: r) M := rfl
theorem xi_138_88 : am_do xs 138 88 l st M = am_ldi (am_lg l 1) 89 l st M := rfl
theorem xi_138_89 : am_do xs 138 89 l st M = am_lda (am_lg l 0) 90 l st M := rfl
theorem xi_138_90 : am_do xs 138 90 l st M = am_a1 st fun o r => (am_gf (am_f M o) 8 18).bind fun w => am_nx 93 l (w :: r) M := rfl
theorem xi_138_93 : am_do xs 138 93 l st M = am_via st fun w i o r => (am_wi (am_f M o) 0 i w).bind fun e => am_nx 94 l r (am_set M o e) := rfl
theorem xi_138_94 : am_do xs 138 94 l st M = am_nx 95 l (.int 0 :: st) M := rfl
theorem xi_138_95 : am_do xs 138 95 l st M = am_i1 st fun x r => am_nx 96 (am_s1 l 2 (.int x)) r M := rfl
theorem xi_138_96 : am_do xs 138 96 l st M = am_ldi (am_lg l 2) 97 l st M := rfl
theorem xi_138_97 : am_do xs 138 97 l st M = am_lda (am_lg l 0) 98 l st M := rfl
theorem xi_138_98 : am_do xs 138 98 l st M = am_a1 st fun o r => (am_gf (am_f M o) 8 17).bind fun w => am_nx 101 l (w :: r) M := rfl
theorem xi_138_101 : am_do xs 138 101 l st M = am_i2 st fun x y r => am_nx (if y ≤ x then 127 else 104) l r M := rfl
theorem xi_138_104 : am_do xs 138 104 l st M = am_lda (am_lg l 0) 105 l st M := rfl
theorem xi_138_105 : am_do xs 138 105 l st M = am_a1 st fun o r => (am_gf (am_f M o) 8 30).bind fun w => am_nx 108 l (w :: r) M := rfl
theorem xi_138_108 : am_do xs 138 108 l st M = am_nx 110 l (.int 6 :: st) M := rfl
theorem xi_138_110 : am_do xs 138 110 l st M = am_ldi (am_lg l 1) 111 l st M := rfl
theorem xi_138_111 : am_do xs 138 111 l st M = am_i2 st fun x y r => am_nx 112 l (.int (x * y) :: r) M := rfl
theorem xi_138_112 : am_do xs 138 112 l st M = am_ldi (am_lg l 2) 113 l st M := rfl
theorem xi_138_113 : am_do xs 138 113 l st M = am_i2 st fun x y r => am_nx 114 l (.int (x + y) :: r) M := rfl
theorem xi_138_114 : am_do xs 138 114 l st M = am_lda (am_lg l 0) 115 l st M := rfl
theorem xi_138_115 : am_do xs 138 115 l st M = am_a1 st fun o r => (am_gf (am_f M o) 8 13).bind fun w => am_nx 118 l (w :: r) M := rfl
theorem xi_138_118 : am_do xs 138 118 l st M = am_ldi (am_lg l 2) 119 l st M := rfl
theorem xi_138_119 : am_do xs 138 119 l st M = am_ia st fun i o r => (am_aj (am_f M o) i).bind fun x => am_nx 120 l (.long x :: r) M := rfl
theorem xi_138_120 : am_do xs 138 120 l st M = am_via st fun w i o r => (am_wj (am_f M o) i w).bind fun e => am_nx 121 l r (am_set M o e) := rfl
theorem xi_138_121 : am_do xs 138 121 l st M = am_inc (am_lg l 2) 2 1 124 l st M := rfl
theorem xi_138_124 : am_do xs 138 124 l st M = am_nx 96 l st M := rfl
theorem xi_138_127 : am_do xs 138 127 l st M = am_lda (am_lg l 0) 128 l st M := rfl
theorem xi_138_128 : am_do xs 138 128 l st M = am_a1 st fun o r => (am_gf (am_f M o) 8 31).bind fun w => am_nx 131 l (w :: r) M := rfl
theorem xi_138_131 : am_do xs 138 131 l st M = am_ldi (am_lg l 1) 132 l st M := rfl
theorem xi_138_132 : am_do xs 138 132 l st M = am_lda (am_lg l 0) 133 l st M := rfl
theorem xi_138_133 : am_do xs 138 133 l st M = am_a1 st fun o r => (am_gf (am_f M o) 8 1).bind fun w => am_nx 136 l (w :: r) M := rfl
theorem xi_138_136 : am_do xs 138 136 l st M = am_lda (am_lg l 0) 137 l st M := rfl
theorem xi_138_137 : am_do xs 138 137 l st M = am_a1 st fun o r => (am_gf (am_f M o) 8 18).bind fun w => am_nx 140 l (w :: r) M := rfl
theorem xi_138_140 : am_do xs 138 140 l st M = am_i1 st fun x r => am_nx 141 l (.long x.toInt64 :: r) M := rfl
theorem xi_138_141 : am_do xs 138 141 l st M = am_inv 0 2 (.retAddr 8) st M := rfl
theorem xt_138_141 : am_to 138 141 = 107 := rfl
theorem xi_138_144 : am_do xs 138 144 l st M = am_via st fun w i o r => (am_wj (am_f M o) i w).bind fun e => am_nx 145 l r (am_set M o e) := rfl
theorem xi_138_145 : am_do xs 138 145 l st M = am_ldi (am_lg l 1) 146 l st M := rfl
theorem xi_138_146 : am_do xs 138 146 l st M = am_rti st 0 := rfl
theorem xi_139_0 : am_do xs 139 0 l st M = am_nx 1 l (.int 0 :: st) M := rfl
theorem xi_139_1 : am_do xs 139 1 l st M = am_i1 st fun x r => am_nx 2 (am_s1 l 2 (.int x)) r M := rfl
theorem xi_139_2 : am_do xs 139 2 l st M = am_nx 3 l (.int 0 :: st) M := rfl
theorem xi_139_3 : am_do xs 139 3 l st M = am_i1 st fun x r => am_nx 4 (am_s1 l 3 (.int x)) r M := rfl
theorem xi_139_4 : am_do xs 139 4 l st M = am_ldi (am_lg l 3) 5 l st M := rfl
theorem xi_139_5 : am_do xs 139 5 l st M = am_lda (am_lg l 0) 6 l st M := rfl
theorem xi_139_6 : am_do xs 139 6 l st M = am_a1 st fun o r => (am_gf (am_f M o) 8 26).bind fun w => am_nx 9 l (w :: r) M := rfl
theorem xi_139_9 : am_do xs 139 9 l st M = am_i2 st fun x y r => am_nx (if y ≤ x then 36 else 12) l r M := rfl
theorem xi_139_12 : am_do xs 139 12 l st M = am_ldi (am_lg l 2) 13 l st M := rfl
theorem xi_139_13 : am_do xs 139 13 l st M = am_lda (am_lg l 0) 14 l st M := rfl
theorem xi_139_14 : am_do xs 139 14 l st M = am_a1 st fun o r => (am_gf (am_f M o) 8 35).bind fun w => am_nx 17 l (w :: r) M := rfl
theorem xi_139_17 : am_do xs 139 17 l st M = am_ldi (am_lg l 3) 18 l st M := rfl
theorem xi_139_18 : am_do xs 139 18 l st M = am_ial xs st 19 l M := rfl
theorem xi_139_19 : am_do xs 139 19 l st M = am_ldi (am_lg l 1) 20 l st M := rfl
theorem xi_139_20 : am_do xs 139 20 l st M = am_i2 st fun x y r => am_nx (if ¬ x = y then 27 else 23) l r M := rfl
theorem xi_139_23 : am_do xs 139 23 l st M = am_nx 24 l (.int 1 :: st) M := rfl
theorem xi_139_24 : am_do xs 139 24 l st M = am_nx 28 l st M := rfl
theorem xi_139_27 : am_do xs 139 27 l st M = am_nx 28 l (.int 0 :: st) M := rfl
theorem xi_139_28 : am_do xs 139 28 l st M = am_i2 st fun x y r => am_nx 29 l (.int (x + y) :: r) M := rfl
theorem xi_139_29 : am_do xs 139 29 l st M = am_i1 st fun x r => am_nx 30 (am_s1 l 2 (.int x)) r M := rfl
theorem xi_139_30 : am_do xs 139 30 l st M = am_inc (am_lg l 3) 3 1 33 l st M := rfl
theorem xi_139_33 : am_do xs 139 33 l st M = am_nx 4 l st M := rfl
theorem xi_139_36 : am_do xs 139 36 l st M = am_ldi (am_lg l 2) 37 l st M := rfl
theorem xi_139_37 : am_do xs 139 37 l st M = am_rti st 0 := rfl
theorem xi_140_0 : am_do xs 140 0 l st M = am_lda (am_lg l 0) 1 l st M := rfl
theorem xi_140_1 : am_do xs 140 1 l st M = am_nx 2 l (.int 0 :: st) M := rfl
theorem xi_140_2 : am_do xs 140 2 l st M = am_put st 8 0 0 5 l M := rfl
theorem xi_140_5 : am_do xs 140 5 l st M = am_lda (am_lg l 0) 6 l st M := rfl
theorem xi_140_6 : am_do xs 140 6 l st M = am_lda (am_lg l 0) 7 l st M := rfl
theorem xi_140_7 : am_do xs 140 7 l st M = am_a1 st fun o r => (am_gf (am_f M o) 8 24).bind fun w => am_nx 10 l (w :: r) M := rfl
theorem xi_140_10 : am_do xs 140 10 l st M = am_nx 11 l (.int (-1) :: st) M := rfl
theorem xi_140_11 : am_do xs 140 11 l st M = am_i2 st fun x y r => am_nx (if x = y then 18 else 14) l r M := rfl
theorem xi_140_14 : am_do xs 140 14 l st M = am_nx 15 l (.int 1 :: st) M := rfl
theorem xi_140_15 : am_do xs 140 15 l st M = am_nx 19 l st M := rfl
theorem xi_140_18 : am_do xs 140 18 l st M = am_nx 19 l (.int 0 :: st) M := rfl
theorem xi_140_19 : am_do xs 140 19 l st M = am_nx 20 l (.int 1 :: st) M := rfl
theorem xi_140_20 : am_do xs 140 20 l st M = am_inv 1 3 (.retAddr 8) st M := rfl
theorem xt_140_20 : am_to 140 20 = 106 := rfl
theorem xi_140_23 : am_do xs 140 23 l st M = am_i1 st fun x r => am_nx (if ¬ x = 0 then 28 else 26) l r M := rfl
theorem xi_140_26 : am_do xs 140 26 l st M = am_nx 27 l (.int 0 :: st) M := rfl
theorem xi_140_27 : am_do xs 140 27 l st M = am_rti st 0 := rfl
theorem xi_140_28 : am_do xs 140 28 l st M = am_lda (am_lg l 0) 29 l st M := rfl
theorem xi_140_29 : am_do xs 140 29 l st M = am_lda (am_lg l 0) 30 l st M := rfl
theorem xi_140_30 : am_do xs 140 30 l st M = am_a1 st fun o r => (am_gf (am_f M o) 8 24).bind fun w => am_nx 33 l (w :: r) M := rfl
theorem xi_140_33 : am_do xs 140 33 l st M = am_inv 1 2 (.retAddr 8) st M := rfl
theorem xt_140_33 : am_to 140 33 = 139 := rfl
theorem xi_140_36 : am_do xs 140 36 l st M = am_i1 st fun x r => am_nx 37 (am_s1 l 1 (.int x)) r M := rfl
theorem xi_140_37 : am_do xs 140 37 l st M = am_lda (am_lg l 0) 38 l st M := rfl
theorem xi_140_38 : am_do xs 140 38 l st M = am_nx 39 l (.int (-1) :: st) M := rfl
theorem xi_140_39 : am_do xs 140 39 l st M = am_put st 8 24 0 42 l M := rfl
theorem xi_140_42 : am_do xs 140 42 l st M = am_ldi (am_lg l 1) 43 l st M := rfl
theorem xi_140_43 : am_do xs 140 43 l st M = am_rti st 0 := rfl
theorem xi_141_0 : am_do xs 141 0 l st M = am_lda (am_lg l 0) 1 l st M := rfl
theorem xi_141_1 : am_do xs 141 1 l st M = am_nx 2 l (.int 0 :: st) M := rfl
theorem xi_141_2 : am_do xs 141 2 l st M = am_put st 8 0 0 5 l M := rfl
theorem xi_141_5 : am_do xs 141 5 l st M = am_lda (am_lg l 0) 6 l st M := rfl
theorem xi_141_6 : am_do xs 141 6 l st M = am_lda (am_lg l 0) 7 l st M := rfl
theorem xi_141_7 : am_do xs 141 7 l st M = am_a1 st fun o r => (am_gf (am_f M o) 8 24).bind fun w => am_nx 10 l (w :: r) M := rfl
theorem xi_141_10 : am_do xs 141 10 l st M = am_nx 11 l (.int (-1) :: st) M := rfl
theorem xi_141_11 : am_do xs 141 11 l st M = am_i2 st fun x y r => am_nx (if x = y then 27 else 14) l r M := rfl
theorem xi_141_14 : am_do xs 141 14 l st M = am_lda (am_lg l 0) 15 l st M := rfl
theorem xi_141_15 : am_do xs 141 15 l st M = am_a1 st fun o r => (am_gf (am_f M o) 8 26).bind fun w => am_nx 18 l (w :: r) M := rfl
theorem xi_141_18 : am_do xs 141 18 l st M = am_nx 20 l (.int 100 :: st) M := rfl
theorem xi_141_20 : am_do xs 141 20 l st M = am_i2 st fun x y r => am_nx (if y ≤ x then 27 else 23) l r M := rfl
theorem xi_141_23 : am_do xs 141 23 l st M = am_nx 24 l (.int 1 :: st) M := rfl
theorem xi_141_24 : am_do xs 141 24 l st M = am_nx 28 l st M := rfl
theorem xi_141_27 : am_do xs 141 27 l st M = am_nx 28 l (.int 0 :: st) M := rfl
theorem xi_141_28 : am_do xs 141 28 l st M = am_nx 29 l (.int 1 :: st) M := rfl
theorem xi_141_29 : am_do xs 141 29 l st M = am_inv 1 3 (.retAddr 8) st M := rfl
theorem xt_141_29 : am_to 141 29 = 106 := rfl
theorem xi_141_32 : am_do xs 141 32 l st M = am_i1 st fun x r => am_nx (if ¬ x = 0 then 37 else 35) l r M := rfl
theorem xi_141_35 : am_do xs 141 35 l st M = am_nx 36 l (.int 0 :: st) M := rfl
theorem xi_141_36 : am_do xs 141 36 l st M = am_rti st 0 := rfl
theorem xi_141_37 : am_do xs 141 37 l st M = am_lda (am_lg l 0) 38 l st M := rfl
theorem xi_141_38 : am_do xs 141 38 l st M = am_a1 st fun o r => (am_gf (am_f M o) 8 26).bind fun w => am_nx 41 l (w :: r) M := rfl
theorem xi_141_41 : am_do xs 141 41 l st M = am_i1 st fun x r => am_nx 42 (am_s1 l 1 (.int x)) r M := rfl
theorem xi_141_42 : am_do xs 141 42 l st M = am_lda (am_lg l 0) 43 l st M := rfl
theorem xi_141_43 : am_do xs 141 43 l st M = am_a1 st fun o r => (am_gf (am_f M o) 8 35).bind fun w => am_nx 46 l (w :: r) M := rfl
theorem xi_141_46 : am_do xs 141 46 l st M = am_ldi (am_lg l 1) 47 l st M := rfl
theorem xi_141_47 : am_do xs 141 47 l st M = am_lda (am_lg l 0) 48 l st M := rfl
theorem xi_141_48 : am_do xs 141 48 l st M = am_a1 st fun o r => (am_gf (am_f M o) 8 24).bind fun w => am_nx 51 l (w :: r) M := rfl
theorem xi_141_51 : am_do xs 141 51 l st M = am_via st fun w i o r => (am_wi (am_f M o) 0 i w).bind fun e => am_nx 52 l r (am_set M o e) := rfl
theorem xi_141_52 : am_do xs 141 52 l st M = am_lda (am_lg l 0) 53 l st M := rfl
theorem xi_141_53 : am_do xs 141 53 l st M = am_a1 st fun o r => (am_gf (am_f M o) 8 36).bind fun w => am_nx 56 l (w :: r) M := rfl
theorem xi_141_56 : am_do xs 141 56 l st M = am_ldi (am_lg l 1) 57 l st M := rfl
theorem xi_141_57 : am_do xs 141 57 l st M = am_lda (am_lg l 0) 58 l st M := rfl
theorem xi_141_58 : am_do xs 141 58 l st M = am_a1 st fun o r => (am_gf (am_f M o) 8 3).bind fun w => am_nx 61 l (w :: r) M := rfl
theorem xi_141_61 : am_do xs 141 61 l st M = am_via st fun w i o r => (am_wi (am_f M o) 0 i w).bind fun e => am_nx 62 l r (am_set M o e) := rfl
theorem xi_141_62 : am_do xs 141 62 l st M = am_nx 63 l (.int 0 :: st) M := rfl
theorem xi_141_63 : am_do xs 141 63 l st M = am_i1 st fun x r => am_nx 64 (am_s1 l 2 (.int x)) r M := rfl
theorem xi_141_64 : am_do xs 141 64 l st M = am_ldi (am_lg l 2) 65 l st M := rfl
theorem xi_141_65 : am_do xs 141 65 l st M = am_lda (am_lg l 0) 66 l st M := rfl
theorem xi_141_66 : am_do xs 141 66 l st M = am_a1 st fun o r => (am_gf (am_f M o) 8 17).bind fun w => am_nx 69 l (w :: r) M := rfl
theorem xi_141_69 : am_do xs 141 69 l st M = am_i2 st fun x y r => am_nx (if y ≤ x then 103 else 72) l r M := rfl
theorem xi_141_72 : am_do xs 141 72 l st M = am_lda (am_lg l 0) 73 l st M := rfl
theorem xi_141_73 : am_do xs 141 73 l st M = am_a1 st fun o r => (am_gf (am_f M o) 8 37).bind fun w => am_nx 76 l (w :: r) M := rfl
theorem xi_141_76 : am_do xs 141 76 l st M = am_nx 78 l (.int 6 :: st) M := rfl
theorem xi_141_78 : am_do xs 141 78 l st M = am_ldi (am_lg l 1) 79 l st M := rfl
theorem xi_141_79 : am_do xs 141 79 l st M = am_i2 st fun x y r => am_nx 80 l (.int (x * y) :: r) M := rfl
theorem xi_141_80 : am_do xs 141 80 l st M = am_ldi (am_lg l 2) 81 l st M := rfl
theorem xi_141_81 : am_do xs 141 81 l st M = am_i2 st fun x y r => am_nx 82 l (.int (x + y) :: r) M := rfl
theorem xi_141_82 : am_do xs 141 82 l st M = am_lda (am_lg l 0) 83 l st M := rfl
theorem xi_141_83 : am_do xs 141 83 l st M = am_lda (am_lg l 0) 84 l st M := rfl
theorem xi_141_84 : am_do xs 141 84 l st M = am_a1 st fun o r => (am_gf (am_f M o) 8 13).bind fun w => am_nx 87 l (w :: r) M := rfl
theorem xi_141_87 : am_do xs 141 87 l st M = am_ldi (am_lg l 2) 88 l st M := rfl
theorem xi_141_88 : am_do xs 141 88 l st M = am_ia st fun i o r => (am_aj (am_f M o) i).bind fun x => am_nx 89 l (.long x :: r) M := rfl
theorem xi_141_89 : am_do xs 141 89 l st M = am_lda (am_lg l 0) 90 l st M := rfl
theorem xi_141_90 : am_do xs 141 90 l st M = am_a1 st fun o r => (am_gf (am_f M o) 8 1).bind fun w => am_nx 93 l (w :: r) M := rfl
theorem xi_141_93 : am_do xs 141 93 l st M = am_inv 1 3 (.retAddr 8) st M := rfl
theorem xt_141_93 : am_to 141 93 = 132 := rfl
theorem xi_141_96 : am_do xs 141 96 l st M = am_via st fun w i o r => (am_wi (am_f M o) 0 i w).bind fun e => am_nx 97 l r (am_set M o e) := rfl
theorem xi_141_97 : am_do xs 141 97 l st M = am_inc (am_lg l 2) 2 1 100 l st M := rfl
theorem xi_141_100 : am_do xs 141 100 l st M = am_nx 64 l st M := rfl
theorem xi_141_103 : am_do xs 141 103 l st M = am_lda (am_lg l 0) 104 l st M := rfl
theorem xi_141_104 : am_do xs 141 104 l st M = am_a1 st fun o r => (am_gf (am_f M o) 8 38).bind fun w => am_nx 107 l (w :: r) M := rfl
theorem xi_141_107 : am_do xs 141 107 l st M = am_ldi (am_lg l 1) 108 l st M := rfl
theorem xi_141_108 : am_do xs 141 108 l st M = am_lda (am_lg l 0) 109 l st M := rfl
theorem xi_141_109 : am_do xs 141 109 l st M = am_a1 st fun o r => (am_gf (am_f M o) 8 1).bind fun w => am_nx 112 l (w :: r) M := rfl
theorem xi_141_112 : am_do xs 141 112 l st M = am_lda (am_lg l 0) 113 l st M := rfl
theorem xi_141_113 : am_do xs 141 113 l st M = am_a1 st fun o r => (am_gf (am_f M o) 8 18).bind fun w => am_nx 116 l (w :: r) M := rfl
theorem xi_141_116 : am_do xs 141 116 l st M = am_i1 st fun x r => am_nx 117 l (.long x.toInt64 :: r) M := rfl
theorem xi_141_117 : am_do xs 141 117 l st M = am_inv 0 2 (.retAddr 8) st M := rfl
theorem xt_141_117 : am_to 141 117 = 107 := rfl
theorem xi_141_120 : am_do xs 141 120 l st M = am_lda (am_lg l 0) 121 l st M := rfl
theorem xi_141_121 : am_do xs 141 121 l st M = am_a1 st fun o r => (am_gf (am_f M o) 8 31).bind fun w => am_nx 124 l (w :: r) M := rfl
theorem xi_141_124 : am_do xs 141 124 l st M = am_lda (am_lg l 0) 125 l st M := rfl
theorem xi_141_125 : am_do xs 141 125 l st M = am_a1 st fun o r => (am_gf (am_f M o) 8 24).bind fun w => am_nx 128 l (w :: r) M := rfl
theorem xi_141_128 : am_do xs 141 128 l st M = am_ia st fun i o r => (am_aj (am_f M o) i).bind fun x => am_nx 129 l (.long x :: r) M := rfl
theorem xi_141_129 : am_do xs 141 129 l st M = am_j2 st fun x y r => am_nx 130 l (.long (x - y) :: r) M := rfl
theorem xi_141_130 : am_do xs 141 130 l st M = am_lda (am_lg l 0) 131 l st M := rfl
theorem xi_141_131 : am_do xs 141 131 l st M = am_a1 st fun o r => (am_gf (am_f M o) 8 32).bind fun w => am_nx 134 l (w :: r) M := rfl
theorem xi_141_134 : am_do xs 141 134 l st M = am_lda (am_lg l 0) 135 l st M := rfl
theorem xi_141_135 : am_do xs 141 135 l st M = am_a1 st fun o r => (am_gf (am_f M o) 8 24).bind fun w => am_nx 138 l (w :: r) M := rfl
theorem xi_141_138 : am_do xs 141 138 l st M = am_ia st fun i o r => (am_aj (am_f M o) i).bind fun x => am_nx 139 l (.long x :: r) M := rfl
theorem xi_141_139 : am_do xs 141 139 l st M = am_j2 st fun x y r => am_nx 140 l (.long (x + y) :: r) M := rfl
theorem xi_141_140 : am_do xs 141 140 l st M = am_via st fun w i o r => (am_wj (am_f M o) i w).bind fun e => am_nx 141 l r (am_set M o e) := rfl
theorem xi_141_141 : am_do xs 141 141 l st M = am_lda (am_lg l 0) 142 l st M := rfl
theorem xi_141_142 : am_do xs 141 142 l st M = am_dup st 143 l M := rfl
theorem xi_141_143 : am_do xs 141 143 l st M = am_a1 st fun o r => (am_gf (am_f M o) 8 26).bind fun w => am_nx 146 l (w :: r) M := rfl
theorem xi_141_146 : am_do xs 141 146 l st M = am_nx 147 l (.int 1 :: st) M := rfl
theorem xi_141_147 : am_do xs 141 147 l st M = am_i2 st fun x y r => am_nx 148 l (.int (x + y) :: r) M := rfl
theorem xi_141_148 : am_do xs 141 148 l st M = am_put st 8 26 0 151 l M := rfl
theorem xi_141_151 : am_do xs 141 151 l st M = am_ldi (am_lg l 1) 152 l st M := rfl
theorem xi_141_152 : am_do xs 141 152 l st M = am_rti st 0 := rfl
theorem xi_142_0 : am_do xs 142 0 l st M = am_lda (am_lg l 0) 1 l st M := rfl
theorem xi_142_1 : am_do xs 142 1 l st M = am_nx 2 l (.int 0 :: st) M := rfl
theorem xi_142_2 : am_do xs 142 2 l st M = am_put st 8 0 0 5 l M := rfl
theorem xi_142_5 : am_do xs 142 5 l st M = am_lda (am_lg l 0) 6 l st M := rfl
theorem xi_142_6 : am_do xs 142 6 l st M = am_ldi (am_lg l 1) 7 l st M := rfl
theorem xi_142_7 : am_do xs 142 7 l st M = am_i1 st fun x r => am_nx 8 l (.long x.toInt64 :: r) M := rfl
theorem xi_142_8 : am_do xs 142 8 l st M = am_nx 11 l (.long (-1000) :: st) M := rfl
theorem xi_142_11 : am_do xs 142 11 l st M = am_nx 14 l (.long 1000 :: st) M := rfl
theorem xi_142_14 : am_do xs 142 14 l st M = am_inv 0 3 (.retAddr 8) st M := rfl
theorem xt_142_14 : am_to 142 14 = 105 := rfl
theorem xi_142_17 : am_do xs 142 17 l st M = am_nx 18 l (.int 1 :: st) M := rfl
theorem xi_142_18 : am_do xs 142 18 l st M = am_inv 1 3 (.retAddr 8) st M := rfl
theorem xt_142_18 : am_to 142 18 = 106 := rfl
theorem xi_142_21 : am_do xs 142 21 l st M = am_i1 st fun x r => am_nx (if x = 0 then 45 else 24) l r M := rfl
theorem xi_142_24 : am_do xs 142 24 l st M = am_lda (am_lg l 0) 25 l st M := rfl
theorem xi_142_25 : am_do xs 142 25 l st M = am_lda (am_lg l 0) 26 l st M := rfl
theorem xi_142_26 : am_do xs 142 26 l st M = am_a1 st fun o r => (am_gf (am_f M o) 8 24).bind fun w => am_nx 29 l (w :: r) M := rfl
theorem xi_142_29 : am_do xs 142 29 l st M = am_nx 30 l (.int (-1) :: st) M := rfl
theorem xi_142_30 : am_do xs 142 30 l st M = am_i2 st fun x y r => am_nx (if x = y then 37 else 33) l r M := rfl
theorem xi_142_33 : am_do xs 142 33 l st M = am_nx 34 l (.int 1 :: st) M := rfl
theorem xi_142_34 : am_do xs 142 34 l st M = am_nx 38 l st M := rfl
theorem xi_142_37 : am_do xs 142 37 l st M = am_nx 38 l (.int 0 :: st) M := rfl
theorem xi_142_38 : am_do xs 142 38 l st M = am_nx 39 l (.int 2 :: st) M := rfl
theorem xi_142_39 : am_do xs 142 39 l st M = am_inv 1 3 (.retAddr 8) st M := rfl
theorem xt_142_39 : am_to 142 39 = 106 := rfl
theorem xi_142_42 : am_do xs 142 42 l st M = am_i1 st fun x r => am_nx (if ¬ x = 0 then 47 else 45) l r M := rfl
theorem xi_142_45 : am_do xs 142 45 l st M = am_nx 46 l (.long 0 :: st) M := rfl
theorem xi_142_46 : am_do xs 142 46 l st M = am_rtj st := rfl
theorem xi_142_47 : am_do xs 142 47 l st M = am_lda (am_lg l 0) 48 l st M := rfl
theorem xi_142_48 : am_do xs 142 48 l st M = am_a1 st fun o r => (am_gf (am_f M o) 8 32).bind fun w => am_nx 51 l (w :: r) M := rfl
theorem xi_142_51 : am_do xs 142 51 l st M = am_lda (am_lg l 0) 52 l st M := rfl
theorem xi_142_52 : am_do xs 142 52 l st M = am_a1 st fun o r => (am_gf (am_f M o) 8 24).bind fun w => am_nx 55 l (w :: r) M := rfl
theorem xi_142_55 : am_do xs 142 55 l st M = am_dup2 st 56 l M := rfl
theorem xi_142_56 : am_do xs 142 56 l st M = am_ia st fun i o r => (am_aj (am_f M o) i).bind fun x => am_nx 57 l (.long x :: r) M := rfl
theorem xi_142_57 : am_do xs 142 57 l st M = am_ldi (am_lg l 1) 58 l st M := rfl
theorem xi_142_58 : am_do xs 142 58 l st M = am_i1 st fun x r => am_nx 59 l (.long x.toInt64 :: r) M := rfl
theorem xi_142_59 : am_do xs 142 59 l st M = am_j2 st fun x y r => am_nx 60 l (.long (x + y) :: r) M := rfl
theorem xi_142_60 : am_do xs 142 60 l st M = am_via st fun w i o r => (am_wj (am_f M o) i w).bind fun e => am_nx 61 l r (am_set M o e) := rfl
theorem xi_142_61 : am_do xs 142 61 l st M = am_lda (am_lg l 0) 62 l st M := rfl
theorem xi_142_62 : am_do xs 142 62 l st M = am_a1 st fun o r => (am_gf (am_f M o) 8 32).bind fun w => am_nx 65 l (w :: r) M := rfl
theorem xi_142_65 : am_do xs 142 65 l st M = am_lda (am_lg l 0) 66 l st M := rfl
theorem xi_142_66 : am_do xs 142 66 l st M = am_a1 st fun o r => (am_gf (am_f M o) 8 24).bind fun w => am_nx 69 l (w :: r) M := rfl
theorem xi_142_69 : am_do xs 142 69 l st M = am_ia st fun i o r => (am_aj (am_f M o) i).bind fun x => am_nx 70 l (.long x :: r) M := rfl
theorem xi_142_70 : am_do xs 142 70 l st M = am_rtj st := rfl
theorem xi_143_0 : am_do xs 143 0 l st M = am_lda (am_lg l 0) 1 l st M := rfl
theorem xi_143_1 : am_do xs 143 1 l st M = am_nx 2 l (.int 0 :: st) M := rfl
theorem xi_143_2 : am_do xs 143 2 l st M = am_put st 8 0 0 5 l M := rfl
theorem xi_143_5 : am_do xs 143 5 l st M = am_lda (am_lg l 0) 6 l st M := rfl
theorem xi_143_6 : am_do xs 143 6 l st M = am_a1 st fun o r => (am_gf (am_f M o) 8 25).bind fun w => am_nx 9 l (w :: r) M := rfl
theorem xi_143_9 : am_do xs 143 9 l st M = am_rti st 0 := rfl
theorem xi_144_0 : am_do xs 144 0 l st M = am_ldi (am_lg l 1) 1 l st M := rfl
theorem xi_144_1 : am_do xs 144 1 l st M = am_i1 st fun x r => am_nx 2 l (.long x.toInt64 :: r) M := rfl
theorem xi_144_2 : am_do xs 144 2 l st M = am_nx 3 l (.long 0 :: st) M := rfl
theorem xi_144_3 : am_do xs 144 3 l st M = am_lda (am_lg l 0) 4 l st M := rfl
theorem xi_144_4 : am_do xs 144 4 l st M = am_a1 st fun o r => (am_gf (am_f M o) 8 25).bind fun w => am_nx 7 l (w :: r) M := rfl
theorem xi_144_7 : am_do xs 144 7 l st M = am_nx 8 l (.int 1 :: st) M := rfl
theorem xi_144_8 : am_do xs 144 8 l st M = am_i2 st fun x y r => am_nx 9 l (.int (x - y) :: r) M := rfl
theorem xi_144_9 : am_do xs 144 9 l st M = am_i1 st fun x r => am_nx 10 l (.long x.toInt64 :: r) M := rfl
theorem xi_144_10 : am_do xs 144 10 l st M = am_inv 0 3 (.retAddr 8) st M := rfl
theorem xt_144_10 : am_to 144 10 = 105 := rfl
theorem xi_144_13 : am_do xs 144 13 l st M = am_rti st 2 := rfl
theorem xi_145_0 : am_do xs 145 0 l st M = am_ldi (am_lg l 1) 1 l st M := rfl
theorem xi_145_1 : am_do xs 145 1 l st M = am_i1 st fun x r => am_nx 2 l (.long x.toInt64 :: r) M := rfl
theorem xi_145_2 : am_do xs 145 2 l st M = am_nx 3 l (.long 0 :: st) M := rfl
theorem xi_145_3 : am_do xs 145 3 l st M = am_lda (am_lg l 0) 4 l st M := rfl
theorem xi_145_4 : am_do xs 145 4 l st M = am_a1 st fun o r => (am_gf (am_f M o) 8 26).bind fun w => am_nx 7 l (w :: r) M := rfl
theorem xi_145_7 : am_do xs 145 7 l st M = am_nx 8 l (.int 1 :: st) M := rfl
theorem xi_145_8 : am_do xs 145 8 l st M = am_i2 st fun x y r => am_nx 9 l (.int (x - y) :: r) M := rfl
theorem xi_145_9 : am_do xs 145 9 l st M = am_i1 st fun x r => am_nx 10 l (.long x.toInt64 :: r) M := rfl
theorem xi_145_10 : am_do xs 145 10 l st M = am_inv 0 3 (.retAddr 8) st M := rfl
theorem xt_145_10 : am_to 145 10 = 105 := rfl
theorem xi_145_13 : am_do xs 145 13 l st M = am_rti st 2 := rfl
theorem xi_146_0 : am_do xs 146 0 l st M = am_lda (am_lg l 0) 1 l st M := rfl
theorem xi_146_1 : am_do xs 146 1 l st M = am_ldi (am_lg l 1) 2 l st M := rfl
theorem xi_146_2 : am_do xs 146 2 l st M = am_inv 1 2 (.retAddr 8) st M := rfl
theorem xt_146_2 : am_to 146 2 = 145 := rfl
theorem xi_146_5 : am_do xs 146 5 l st M = am_i1 st fun x r => am_nx (if x = 0 then 35 else 8) l r M := rfl
theorem xi_146_8 : am_do xs 146 8 l st M = am_ldi (am_lg l 2) 9 l st M := rfl
theorem xi_146_9 : am_do xs 146 9 l st M = am_i1 st fun x r => am_nx 10 l (.long x.toInt64 :: r) M := rfl
theorem xi_146_10 : am_do xs 146 10 l st M = am_nx 11 l (.long 0 :: st) M := rfl
theorem xi_146_11 : am_do xs 146 11 l st M = am_lda (am_lg l 0) 12 l st M := rfl
theorem xi_146_12 : am_do xs 146 12 l st M = am_a1 st fun o r => (am_gf (am_f M o) 8 28).bind fun w => am_nx 15 l (w :: r) M := rfl
theorem xi_146_15 : am_do xs 146 15 l st M = am_lda (am_lg l 0) 16 l st M := rfl
theorem xi_146_16 : am_do xs 146 16 l st M = am_a1 st fun o r => (am_gf (am_f M o) 8 35).bind fun w => am_nx 19 l (w :: r) M := rfl
theorem xi_146_19 : am_do xs 146 19 l st M = am_ldi (am_lg l 1) 20 l st M := rfl
theorem xi_146_20 : am_do xs 146 20 l st M = am_ial xs st 21 l M := rfl
theorem xi_146_21 : am_do xs 146 21 l st M = am_ial xs st 22 l M := rfl
theorem xi_146_22 : am_do xs 146 22 l st M = am_nx 23 l (.int 1 :: st) M := rfl
theorem xi_146_23 : am_do xs 146 23 l st M = am_i2 st fun x y r => am_nx 24 l (.int (x - y) :: r) M := rfl
theorem xi_146_24 : am_do xs 146 24 l st M = am_i1 st fun x r => am_nx 25 l (.long x.toInt64 :: r) M := rfl
theorem xi_146_25 : am_do xs 146 25 l st M = am_inv 0 3 (.retAddr 8) st M := rfl
theorem xt_146_25 : am_to 146 25 = 105 := rfl
theorem xi_146_28 : am_do xs 146 28 l st M = am_i1 st fun x r => am_nx (if x = 0 then 35 else 31) l r M := rfl
theorem xi_146_31 : am_do xs 146 31 l st M = am_nx 32 l (.int 1 :: st) M := rfl
theorem xi_146_32 : am_do xs 146 32 l st M = am_nx 36 l st M := rfl
theorem xi_146_35 : am_do xs 146 35 l st M = am_nx 36 l (.int 0 :: st) M := rfl
theorem xi_146_36 : am_do xs 146 36 l st M = am_rti st 2 := rfl
theorem xi_147_0 : am_do xs 147 0 l st M = am_lda (am_lg l 0) 1 l st M := rfl
theorem xi_147_1 : am_do xs 147 1 l st M = am_nx 2 l (.int 0 :: st) M := rfl
theorem xi_147_2 : am_do xs 147 2 l st M = am_put st 8 0 0 5 l M := rfl
theorem xi_147_5 : am_do xs 147 5 l st M = am_lda (am_lg l 0) 6 l st M := rfl
theorem xi_147_6 : am_do xs 147 6 l st M = am_lda (am_lg l 0) 7 l st M := rfl
theorem xi_147_7 : am_do xs 147 7 l st M = am_ldi (am_lg l 1) 8 l st M := rfl
theorem xi_147_8 : am_do xs 147 8 l st M = am_inv 1 2 (.retAddr 8) st M := rfl
theorem xt_147_8 : am_to 147 8 = 144 := rfl
theorem xi_147_11 : am_do xs 147 11 l st M = am_nx 12 l (.int 1 :: st) M := rfl
theorem xi_147_12 : am_do xs 147 12 l st M = am_inv 1 3 (.retAddr 8) st M := rfl
theorem xt_147_12 : am_to 147 12 = 106 := rfl
theorem xi_147_15 : am_do xs 147 15 l st M = am_i1 st fun x r => am_nx (if x = 0 then 26 else 18) l r M := rfl
theorem xi_147_18 : am_do xs 147 18 l st M = am_lda (am_lg l 0) 19 l st M := rfl
theorem xi_147_19 : am_do xs 147 19 l st M = am_ldi (am_lg l 1) 20 l st M := rfl
theorem xi_147_20 : am_do xs 147 20 l st M = am_inv 1 2 (.retAddr 8) st M := rfl
theorem xt_147_20 : am_to 147 20 = 139 := rfl
theorem xi_147_23 : am_do xs 147 23 l st M = am_nx 27 l st M := rfl
theorem xi_147_26 : am_do xs 147 26 l st M = am_nx 27 l (.int 0 :: st) M := rfl
theorem xi_147_27 : am_do xs 147 27 l st M = am_rti st 0 := rfl
theorem xi_148_0 : am_do xs 148 0 l st M = am_lda (am_lg l 0) 1 l st M := rfl
theorem xi_148_1 : am_do xs 148 1 l st M = am_nx 2 l (.int 0 :: st) M := rfl
theorem xi_148_2 : am_do xs 148 2 l st M = am_put st 8 0 0 5 l M := rfl
theorem xi_148_5 : am_do xs 148 5 l st M = am_lda (am_lg l 0) 6 l st M := rfl
theorem xi_148_6 : am_do xs 148 6 l st M = am_lda (am_lg l 0) 7 l st M := rfl
theorem xi_148_7 : am_do xs 148 7 l st M = am_ldi (am_lg l 1) 8 l st M := rfl
theorem xi_148_8 : am_do xs 148 8 l st M = am_inv 1 2 (.retAddr 8) st M := rfl
theorem xt_148_8 : am_to 148 8 = 145 := rfl
theorem xi_148_11 : am_do xs 148 11 l st M = am_nx 12 l (.int 1 :: st) M := rfl
theorem xi_148_12 : am_do xs 148 12 l st M = am_inv 1 3 (.retAddr 8) st M := rfl
theorem xt_148_12 : am_to 148 12 = 106 := rfl
theorem xi_148_15 : am_do xs 148 15 l st M = am_i1 st fun x r => am_nx (if x = 0 then 27 else 18) l r M := rfl
theorem xi_148_18 : am_do xs 148 18 l st M = am_lda (am_lg l 0) 19 l st M := rfl
theorem xi_148_19 : am_do xs 148 19 l st M = am_a1 st fun o r => (am_gf (am_f M o) 8 36).bind fun w => am_nx 22 l (w :: r) M := rfl
theorem xi_148_22 : am_do xs 148 22 l st M = am_ldi (am_lg l 1) 23 l st M := rfl
theorem xi_148_23 : am_do xs 148 23 l st M = am_ial xs st 24 l M := rfl
theorem xi_148_24 : am_do xs 148 24 l st M = am_nx 28 l st M := rfl
theorem xi_148_27 : am_do xs 148 27 l st M = am_nx 28 l (.int 0 :: st) M := rfl
theorem xi_148_28 : am_do xs 148 28 l st M = am_rti st 0 := rfl
theorem xi_149_0 : am_do xs 149 0 l st M = am_lda (am_lg l 0) 1 l st M := rfl
theorem xi_149_1 : am_do xs 149 1 l st M = am_nx 2 l (.int 0 :: st) M := rfl
theorem xi_149_2 : am_do xs 149 2 l st M = am_put st 8 0 0 5 l M := rfl
theorem xi_149_5 : am_do xs 149 5 l st M = am_lda (am_lg l 0) 6 l st M := rfl
theorem xi_149_6 : am_do xs 149 6 l st M = am_lda (am_lg l 0) 7 l st M := rfl
theorem xi_149_7 : am_do xs 149 7 l st M = am_ldi (am_lg l 1) 8 l st M := rfl
theorem xi_149_8 : am_do xs 149 8 l st M = am_inv 1 2 (.retAddr 8) st M := rfl
theorem xt_149_8 : am_to 149 8 = 145 := rfl
theorem xi_149_11 : am_do xs 149 11 l st M = am_nx 12 l (.int 1 :: st) M := rfl
theorem xi_149_12 : am_do xs 149 12 l st M = am_inv 1 3 (.retAddr 8) st M := rfl
theorem xt_149_12 : am_to 149 12 = 106 := rfl
theorem xi_149_15 : am_do xs 149 15 l st M = am_i1 st fun x r => am_nx (if x = 0 then 27 else 18) l r M := rfl
theorem xi_149_18 : am_do xs 149 18 l st M = am_lda (am_lg l 0) 19 l st M := rfl
theorem xi_149_19 : am_do xs 149 19 l st M = am_a1 st fun o r => (am_gf (am_f M o) 8 35).bind fun w => am_nx 22 l (w :: r) M := rfl
theorem xi_149_22 : am_do xs 149 22 l st M = am_ldi (am_lg l 1) 23 l st M := rfl
theorem xi_149_23 : am_do xs 149 23 l st M = am_ial xs st 24 l M := rfl
theorem xi_149_24 : am_do xs 149 24 l st M = am_nx 28 l st M := rfl
theorem xi_149_27 : am_do xs 149 27 l st M = am_nx 28 l (.int 0 :: st) M := rfl
theorem xi_149_28 : am_do xs 149 28 l st M = am_rti st 0 := rfl
theorem xi_150_0 : am_do xs 150 0 l st M = am_lda (am_lg l 0) 1 l st M := rfl
theorem xi_150_1 : am_do xs 150 1 l st M = am_nx 2 l (.int 0 :: st) M := rfl
theorem xi_150_2 : am_do xs 150 2 l st M = am_put st 8 0 0 5 l M := rfl
theorem xi_150_5 : am_do xs 150 5 l st M = am_lda (am_lg l 0) 6 l st M := rfl
theorem xi_150_6 : am_do xs 150 6 l st M = am_lda (am_lg l 0) 7 l st M := rfl
theorem xi_150_7 : am_do xs 150 7 l st M = am_ldi (am_lg l 1) 8 l st M := rfl
theorem xi_150_8 : am_do xs 150 8 l st M = am_ldi (am_lg l 2) 9 l st M := rfl
theorem xi_150_9 : am_do xs 150 9 l st M = am_inv 1 3 (.retAddr 8) st M := rfl
theorem xt_150_9 : am_to 150 9 = 146 := rfl
theorem xi_150_12 : am_do xs 150 12 l st M = am_nx 13 l (.int 1 :: st) M := rfl
theorem xi_150_13 : am_do xs 150 13 l st M = am_inv 1 3 (.retAddr 8) st M := rfl
theorem xt_150_13 : am_to 150 13 = 106 := rfl
theorem xi_150_16 : am_do xs 150 16 l st M = am_i1 st fun x r => am_nx (if x = 0 then 33 else 19) l r M := rfl
theorem xi_150_19 : am_do xs 150 19 l st M = am_lda (am_lg l 0) 20 l st M := rfl
theorem xi_150_20 : am_do xs 150 20 l st M = am_a1 st fun o r => (am_gf (am_f M o) 8 37).bind fun w => am_nx 23 l (w :: r) M := rfl
theorem xi_150_23 : am_do xs 150 23 l st M = am_nx 25 l (.int 6 :: st) M := rfl
theorem xi_150_25 : am_do xs 150 25 l st M = am_ldi (am_lg l 1) 26 l st M := rfl
theorem xi_150_26 : am_do xs 150 26 l st M = am_i2 st fun x y r => am_nx 27 l (.int (x * y) :: r) M := rfl
theorem xi_150_27 : am_do xs 150 27 l st M = am_ldi (am_lg l 2) 28 l st M := rfl
theorem xi_150_28 : am_do xs 150 28 l st M = am_i2 st fun x y r => am_nx 29 l (.int (x + y) :: r) M := rfl
theorem xi_150_29 : am_do xs 150 29 l st M = am_ial xs st 30 l M := rfl
theorem xi_150_30 : am_do xs 150 30 l st M = am_nx 34 l st M := rfl
theorem xi_150_33 : am_do xs 150 33 l st M = am_nx 34 l (.int 0 :: st) M := rfl
theorem xi_150_34 : am_do xs 150 34 l st M = am_rti st 0 := rfl
theorem xi_151_0 : am_do xs 151 0 l st M = am_lda (am_lg l 0) 1 l st M := rfl
theorem xi_151_1 : am_do xs 151 1 l st M = am_nx 2 l (.int 0 :: st) M := rfl
theorem xi_151_2 : am_do xs 151 2 l st M = am_put st 8 0 0 5 l M := rfl
theorem xi_151_5 : am_do xs 151 5 l st M = am_lda (am_lg l 0) 6 l st M := rfl
theorem xi_151_6 : am_do xs 151 6 l st M = am_lda (am_lg l 0) 7 l st M := rfl
theorem xi_151_7 : am_do xs 151 7 l st M = am_ldi (am_lg l 1) 8 l st M := rfl
theorem xi_151_8 : am_do xs 151 8 l st M = am_inv 1 2 (.retAddr 8) st M := rfl
theorem xt_151_8 : am_to 151 8 = 145 := rfl
theorem xi_151_11 : am_do xs 151 11 l st M = am_nx 12 l (.int 1 :: st) M := rfl
theorem xi_151_12 : am_do xs 151 12 l st M = am_inv 1 3 (.retAddr 8) st M := rfl
theorem xt_151_12 : am_to 151 12 = 106 := rfl
theorem xi_151_15 : am_do xs 151 15 l st M = am_i1 st fun x r => am_nx (if x = 0 then 27 else 18) l r M := rfl
theorem xi_151_18 : am_do xs 151 18 l st M = am_lda (am_lg l 0) 19 l st M := rfl
theorem xi_151_19 : am_do xs 151 19 l st M = am_a1 st fun o r => (am_gf (am_f M o) 8 38).bind fun w => am_nx 22 l (w :: r) M := rfl
theorem xi_151_22 : am_do xs 151 22 l st M = am_ldi (am_lg l 1) 23 l st M := rfl
theorem xi_151_23 : am_do xs 151 23 l st M = am_ia st fun i o r => (am_aj (am_f M o) i).bind fun x => am_nx 24 l (.long x :: r) M := rfl
theorem xi_151_24 : am_do xs 151 24 l st M = am_nx 28 l st M := rfl
theorem xi_151_27 : am_do xs 151 27 l st M = am_nx 28 l (.long 0 :: st) M := rfl
theorem xi_151_28 : am_do xs 151 28 l st M = am_rtj st := rfl
theorem xi_152_0 : am_do xs 152 0 l st M = am_lda (am_lg l 0) 1 l st M := rfl
theorem xi_152_1 : am_do xs 152 1 l st M = am_nx 2 l (.int 0 :: st) M := rfl
theorem xi_152_2 : am_do xs 152 2 l st M = am_put st 8 0 0 5 l M := rfl
theorem xi_152_5 : am_do xs 152 5 l st M = am_nx 6 l (.int 0 :: st) M := rfl
theorem xi_152_6 : am_do xs 152 6 l st M = am_i1 st fun x r => am_nx 7 (am_s1 l 1 (.int x)) r M := rfl
theorem xi_152_7 : am_do xs 152 7 l st M = am_nx 8 l (.int 0 :: st) M := rfl
theorem xi_152_8 : am_do xs 152 8 l st M = am_i1 st fun x r => am_nx 9 (am_s1 l 2 (.int x)) r M := rfl
theorem xi_152_9 : am_do xs 152 9 l st M = am_ldi (am_lg l 2) 10 l st M := rfl
theorem xi_152_10 : am_do xs 152 10 l st M = am_lda (am_lg l 0) 11 l st M := rfl
theorem xi_152_11 : am_do xs 152 11 l st M = am_a1 st fun o r => (am_gf (am_f M o) 8 26).bind fun w => am_nx 14 l (w :: r) M := rfl
theorem xi_152_14 : am_do xs 152 14 l st M = am_i2 st fun x y r => am_nx (if y ≤ x then 52 else 17) l r M := rfl
theorem xi_152_17 : am_do xs 152 17 l st M = am_ldi (am_lg l 1) 18 l st M := rfl
theorem xi_152_18 : am_do xs 152 18 l st M = am_ldi (am_lg l 2) 19 l st M := rfl
theorem xi_152_19 : am_do xs 152 19 l st M = am_i1 st fun x r => am_nx (if x = 0 then 39 else 22) l r M := rfl
theorem xi_152_22 : am_do xs 152 22 l st M = am_lda (am_lg l 0) 23 l st M := rfl
theorem xi_152_23 : am_do xs 152 23 l st M = am_a1 st fun o r => (am_gf (am_f M o) 8 36).bind fun w => am_nx 26 l (w :: r) M := rfl
theorem xi_152_26 : am_do xs 152 26 l st M = am_ldi (am_lg l 2) 27 l st M := rfl
theorem xi_152_27 : am_do xs 152 27 l st M = am_ial xs st 28 l M := rfl
theorem xi_152_28 : am_do xs 152 28 l st M = am_lda (am_lg l 0) 29 l st M := rfl
theorem xi_152_29 : am_do xs 152 29 l st M = am_a1 st fun o r => (am_gf (am_f M o) 8 36).bind fun w => am_nx 32 l (w :: r) M := rfl
theorem xi_152_32 : am_do xs 152 32 l st M = am_ldi (am_lg l 2) 33 l st M := rfl
theorem xi_152_33 : am_do xs 152 33 l st M = am_nx 34 l (.int 1 :: st) M := rfl
theorem xi_152_34 : am_do xs 152 34 l st M = am_i2 st fun x y r => am_nx 35 l (.int (x - y) :: r) M := rfl
theorem xi_152_35 : am_do xs 152 35 l st M = am_ial xs st 36 l M := rfl
theorem xi_152_36 : am_do xs 152 36 l st M = am_i2 st fun x y r => am_nx (if x = y then 43 else 39) l r M := rfl
theorem xi_152_39 : am_do xs 152 39 l st M = am_nx 40 l (.int 1 :: st) M := rfl
theorem xi_152_40 : am_do xs 152 40 l st M = am_nx 44 l st M := rfl
theorem xi_152_43 : am_do xs 152 43 l st M = am_nx 44 l (.int 0 :: st) M := rfl
theorem xi_152_44 : am_do xs 152 44 l st M = am_i2 st fun x y r => am_nx 45 l (.int (x + y) :: r) M := rfl
theorem xi_152_45 : am_do xs 152 45 l st M = am_i1 st fun x r => am_nx 46 (am_s1 l 1 (.int x)) r M := rfl
theorem xi_152_46 : am_do xs 152 46 l st M = am_inc (am_lg l 2) 2 1 49 l st M := rfl
theorem xi_152_49 : am_do xs 152 49 l st M = am_nx 9 l st M := rfl
theorem xi_152_52 : am_do xs 152 52 l st M = am_ldi (am_lg l 1) 53 l st M := rfl
theorem xi_152_53 : am_do xs 152 53 l st M = am_rti st 0 := rfl
theorem xi_153_0 : am_do xs 153 0 l st M = am_lda (am_lg l 0) 1 l st M := rfl
theorem xi_153_1 : am_do xs 153 1 l st M = am_nx 2 l (.int 0 :: st) M := rfl
theorem xi_153_2 : am_do xs 153 2 l st M = am_put st 8 0 0 5 l M := rfl
theorem xi_153_5 : am_do xs 153 5 l st M = am_lda (am_lg l 0) 6 l st M := rfl
theorem xi_153_6 : am_do xs 153 6 l st M = am_ldj (am_lg l 1) 7 l st M := rfl
theorem xi_153_7 : am_do xs 153 7 l st M = am_nx 8 l (.long 0 :: st) M := rfl
theorem xi_153_8 : am_do xs 153 8 l st M = am_nx 11 l (.long 10000000000000 :: st) M := rfl
theorem xi_153_11 : am_do xs 153 11 l st M = am_inv 0 3 (.retAddr 8) st M := rfl
theorem xt_153_11 : am_to 153 11 = 105 := rfl
theorem xi_153_14 : am_do xs 153 14 l st M = am_nx 15 l (.int 1 :: st) M := rfl
theorem xi_153_15 : am_do xs 153 15 l st M = am_inv 1 3 (.retAddr 8) st M := rfl
theorem xt_153_15 : am_to 153 15 = 106 := rfl
theorem xi_153_18 : am_do xs 153 18 l st M = am_i1 st fun x r => am_nx (if ¬ x = 0 then 23 else 21) l r M := rfl
theorem xi_153_21 : am_do xs 153 21 l st M = am_nx 22 l (.long 0 :: st) M := rfl
theorem xi_153_22 : am_do xs 153 22 l st M = am_rtj st := rfl
theorem xi_153_23 : am_do xs 153 23 l st M = am_lda (am_lg l 0) 24 l st M := rfl
theorem xi_153_24 : am_do xs 153 24 l st M = am_a1 st fun o r => (am_gf (am_f M o) 8 39).bind fun w => am_nx 27 l (w :: r) M := rfl
theorem xi_153_27 : am_do xs 153 27 l st M = am_j1 st fun x r => am_nx 28 (am_s2 l 3 (.long x)) r M := rfl
theorem xi_153_28 : am_do xs 153 28 l st M = am_lda (am_lg l 0) 29 l st M := rfl
theorem xi_153_29 : am_do xs 153 29 l st M = am_ldj (am_lg l 1) 30 l st M := rfl
theorem xi_153_30 : am_do xs 153 30 l st M = am_put st 8 39 1 33 l M := rfl
theorem xi_153_33 : am_do xs 153 33 l st M = am_ldj (am_lg l 3) 34 l st M := rfl
theorem xi_153_34 : am_do xs 153 34 l st M = am_rtj st := rfl
theorem xi_154_0 : am_do xs 154 0 l st M = am_lda (am_lg l 0) 1 l st M := rfl
theorem xi_154_1 : am_do xs 154 1 l st M = am_a1 st fun o r => (am_gf (am_f M o) 8 35).bind fun w => am_nx 4 l (w :: r) M := rfl
theorem xi_154_4 : am_do xs 154 4 l st M = am_ldi (am_lg l 1) 5 l st M := rfl
theorem xi_154_5 : am_do xs 154 5 l st M = am_ial xs st 6 l M := rfl
theorem xi_154_6 : am_do xs 154 6 l st M = am_i1 st fun x r => am_nx 7 (am_s1 l 2 (.int x)) r M := rfl
theorem xi_154_7 : am_do xs 154 7 l st M = am_nx 8 l (.int 0 :: st) M := rfl
theorem xi_154_8 : am_do xs 154 8 l st M = am_i1 st fun x r => am_nx 9 (am_s1 l 3 (.int x)) r M := rfl
theorem xi_154_9 : am_do xs 154 9 l st M = am_ldi (am_lg l 3) 10 l st M := rfl
theorem xi_154_10 : am_do xs 154 10 l st M = am_lda (am_lg l 0) 11 l st M := rfl
theorem xi_154_11 : am_do xs 154 11 l st M = am_a1 st fun o r => (am_gf (am_f M o) 8 28).bind fun w => am_nx 14 l (w :: r) M := rfl
theorem xi_154_14 : am_do xs 154 14 l st M = am_ldi (am_lg l 2) 15 l st M := rfl
theorem xi_154_15 : am_do xs 154 15 l st M = am_ial xs st 16 l M := rfl
theorem xi_154_16 : am_do xs 154 16 l st M = am_i2 st fun x y r => am_nx (if y ≤ x then 59 else 19) l r M := rfl
theorem xi_154_19 : am_do xs 154 19 l st M = am_lda (am_lg l 0) 20 l st M := rfl
theorem xi_154_20 : am_do xs 154 20 l st M = am_a1 st fun o r => (am_gf (am_f M o) 8 21).bind fun w => am_nx 23 l (w :: r) M := rfl
theorem xi_154_23 : am_do xs 154 23 l st M = am_ldi (am_lg l 3) 24 l st M := rfl
theorem xi_154_24 : am_do xs 154 24 l st M = am_lda (am_lg l 0) 25 l st M := rfl
theorem xi_154_25 : am_do xs 154 25 l st M = am_a1 st fun o r => (am_gf (am_f M o) 8 30).bind fun w => am_nx 28 l (w :: r) M := rfl
theorem xi_154_28 : am_do xs 154 28 l st M = am_nx 30 l (.int 6 :: st) M := rfl
theorem xi_154_30 : am_do xs 154 30 l st M = am_ldi (am_lg l 2) 31 l st M := rfl
theorem xi_154_31 : am_do xs 154 31 l st M = am_i2 st fun x y r => am_nx 32 l (.int (x * y) :: r) M := rfl
theorem xi_154_32 : am_do xs 154 32 l st M = am_ldi (am_lg l 3) 33 l st M := rfl
theorem xi_154_33 : am_do xs 154 33 l st M = am_i2 st fun x y r => am_nx 34 l (.int (x + y) :: r) M := rfl
theorem xi_154_34 : am_do xs 154 34 l st M = am_ia st fun i o r => (am_aj (am_f M o) i).bind fun x => am_nx 35 l (.long x :: r) M := rfl
theorem xi_154_35 : am_do xs 154 35 l st M = am_via st fun w i o r => (am_wj (am_f M o) i w).bind fun e => am_nx 36 l r (am_set M o e) := rfl
theorem xi_154_36 : am_do xs 154 36 l st M = am_lda (am_lg l 0) 37 l st M := rfl
theorem xi_154_37 : am_do xs 154 37 l st M = am_a1 st fun o r => (am_gf (am_f M o) 8 23).bind fun w => am_nx 40 l (w :: r) M := rfl
theorem xi_154_40 : am_do xs 154 40 l st M = am_ldi (am_lg l 3) 41 l st M := rfl
theorem xi_154_41 : am_do xs 154 41 l st M = am_lda (am_lg l 0) 42 l st M := rfl
theorem xi_154_42 : am_do xs 154 42 l st M = am_a1 st fun o r => (am_gf (am_f M o) 8 37).bind fun w => am_nx 45 l (w :: r) M := rfl
theorem xi_154_45 : am_do xs 154 45 l st M = am_nx 47 l (.int 6 :: st) M := rfl
theorem xi_154_47 : am_do xs 154 47 l st M = am_ldi (am_lg l 1) 48 l st M := rfl
theorem xi_154_48 : am_do xs 154 48 l st M = am_i2 st fun x y r => am_nx 49 l (.int (x * y) :: r) M := rfl
theorem xi_154_49 : am_do xs 154 49 l st M = am_ldi (am_lg l 3) 50 l st M := rfl
theorem xi_154_50 : am_do xs 154 50 l st M = am_i2 st fun x y r => am_nx 51 l (.int (x + y) :: r) M := rfl
theorem xi_154_51 : am_do xs 154 51 l st M = am_ial xs st 52 l M := rfl
theorem xi_154_52 : am_do xs 154 52 l st M = am_via st fun w i o r => (am_wi (am_f M o) 0 i w).bind fun e => am_nx 53 l r (am_set M o e) := rfl
theorem xi_154_53 : am_do xs 154 53 l st M = am_inc (am_lg l 3) 3 1 56 l st M := rfl
theorem xi_154_56 : am_do xs 154 56 l st M = am_nx 9 l st M := rfl
theorem xi_154_59 : am_do xs 154 59 l st M = am_lda (am_lg l 0) 60 l st M := rfl
theorem xi_154_60 : am_do xs 154 60 l st M = am_lda (am_lg l 0) 61 l st M := rfl
theorem xi_154_61 : am_do xs 154 61 l st M = am_a1 st fun o r => (am_gf (am_f M o) 8 28).bind fun w => am_nx 64 l (w :: r) M := rfl
theorem xi_154_64 : am_do xs 154 64 l st M = am_ldi (am_lg l 2) 65 l st M := rfl
theorem xi_154_65 : am_do xs 154 65 l st M = am_ial xs st 66 l M := rfl
theorem xi_154_66 : am_do xs 154 66 l st M = am_inv 1 2 (.retAddr 8) st M := rfl
theorem xt_154_66 : am_to 154 66 = 133 := rfl
theorem xi_154_69 : am_do xs 154 69 l st M = am_rtv st := rfl
theorem xi_155_0 : am_do xs 155 0 l st M = am_lda (am_lg l 0) 1 l st M := rfl
theorem xi_155_1 : am_do xs 155 1 l st M = am_ldi (am_lg l 1) 2 l st M := rfl
theorem xi_155_2 : am_do xs 155 2 l st M = am_inv 1 2 (.retAddr 8) st M := rfl
theorem xt_155_2 : am_to 155 2 = 154 := rfl
theorem xi_155_5 : am_do xs 155 5 l st M = am_lda (am_lg l 0) 6 l st M := rfl
theorem xi_155_6 : am_do xs 155 6 l st M = am_a1 st fun o r => (am_gf (am_f M o) 8 22).bind fun w => am_nx 9 l (w :: r) M := rfl
theorem xi_155_9 : am_do xs 155 9 l st M = am_ldi (am_lg l 2) 10 l st M := rfl
theorem xi_155_10 : am_do xs 155 10 l st M = am_ia st fun i o r => (am_aj (am_f M o) i).bind fun x => am_nx 11 l (.long x :: r) M := rfl
theorem xi_155_11 : am_do xs 155 11 l st M = am_lda (am_lg l 0) 12 l st M := rfl
theorem xi_155_12 : am_do xs 155 12 l st M = am_a1 st fun o r => (am_gf (am_f M o) 8 12).bind fun w => am_nx 15 l (w :: r) M := rfl
theorem xi_155_15 : am_do xs 155 15 l st M = am_lda (am_lg l 0) 16 l st M := rfl
theorem xi_155_16 : am_do xs 155 16 l st M = am_a1 st fun o r => (am_gf (am_f M o) 8 27).bind fun w => am_nx 19 l (w :: r) M := rfl
theorem xi_155_19 : am_do xs 155 19 l st M = am_lda (am_lg l 0) 20 l st M := rfl
theorem xi_155_20 : am_do xs 155 20 l st M = am_a1 st fun o r => (am_gf (am_f M o) 8 35).bind fun w => am_nx 23 l (w :: r) M := rfl
theorem xi_155_23 : am_do xs 155 23 l st M = am_ldi (am_lg l 1) 24 l st M := rfl
theorem xi_155_24 : am_do xs 155 24 l st M = am_ial xs st 25 l M := rfl
theorem xi_155_25 : am_do xs 155 25 l st M = am_ial xs st 26 l M := rfl
theorem xi_155_26 : am_do xs 155 26 l st M = am_ia st fun i o r => (am_aj (am_f M o) i).bind fun x => am_nx 27 l (.long x :: r) M := rfl
theorem xi_155_27 : am_do xs 155 27 l st M = am_j2 st fun x y r => am_nx 28 l (.long (x - y) :: r) M := rfl
theorem xi_155_28 : am_do xs 155 28 l st M = am_j1 st fun x r => am_nx 29 (am_s2 l 3 (.long x)) r M := rfl
theorem xi_155_29 : am_do xs 155 29 l st M = am_ldj (am_lg l 3) 30 l st M := rfl
theorem xi_155_30 : am_do xs 155 30 l st M = am_lda (am_lg l 0) 31 l st M := rfl
theorem xi_155_31 : am_do xs 155 31 l st M = am_a1 st fun o r => (am_gf (am_f M o) 8 39).bind fun w => am_nx 34 l (w :: r) M := rfl
theorem xi_155_34 : am_do xs 155 34 l st M = am_ldj (am_lg l 3) 35 l st M := rfl
theorem xi_155_35 : am_do xs 155 35 l st M = am_j2 st fun x y r => am_nx 36 l (.long (x - y) :: r) M := rfl
theorem xi_155_36 : am_do xs 155 36 l st M = am_lda (am_lg l 0) 37 l st M := rfl
theorem xi_155_37 : am_do xs 155 37 l st M = am_a1 st fun o r => (am_gf (am_f M o) 8 21).bind fun w => am_nx 40 l (w :: r) M := rfl
theorem xi_155_40 : am_do xs 155 40 l st M = am_nx 41 l (.int 0 :: st) M := rfl
theorem xi_155_41 : am_do xs 155 41 l st M = am_ia st fun i o r => (am_aj (am_f M o) i).bind fun x => am_nx 42 l (.long x :: r) M := rfl
theorem xi_155_42 : am_do xs 155 42 l st M = am_inv 0 2 (.retAddr 8) st M := rfl
theorem xt_155_42 : am_to 155 42 = 108 := rfl
theorem xi_155_45 : am_do xs 155 45 l st M = am_lda (am_lg l 0) 46 l st M := rfl
theorem xi_155_46 : am_do xs 155 46 l st M = am_a1 st fun o r => (am_gf (am_f M o) 8 21).bind fun w => am_nx 49 l (w :: r) M := rfl
theorem xi_155_49 : am_do xs 155 49 l st M = am_nx 50 l (.int 0 :: st) M := rfl
theorem xi_155_50 : am_do xs 155 50 l st M = am_ia st fun i o r => (am_aj (am_f M o) i).bind fun x => am_nx 51 l (.long x :: r) M := rfl
theorem xi_155_51 : am_do xs 155 51 l st M = am_j2 st fun x y r => am_nx 52 l (.long (x * y) :: r) M := rfl
theorem xi_155_52 : am_do xs 155 52 l st M = am_j2 st fun x y r => am_nx 53 l (.long (x + y) :: r) M := rfl
theorem xi_155_53 : am_do xs 155 53 l st M = am_rtj st := rfl
theorem xi_156_0 : am_do xs 156 0 l st M = am_lda (am_lg l 0) 1 l st M := rfl
theorem xi_156_1 : am_do xs 156 1 l st M = am_ldi (am_lg l 1) 2 l st M := rfl
theorem xi_156_2 : am_do xs 156 2 l st M = am_ldi (am_lg l 2) 3 l st M := rfl
theorem xi_156_3 : am_do xs 156 3 l st M = am_inv 1 3 (.retAddr 8) st M := rfl
theorem xt_156_3 : am_to 156 3 = 155 := rfl
theorem xi_156_6 : am_do xs 156 6 l st M = am_lda (am_lg l 0) 7 l st M := rfl
theorem xi_156_7 : am_do xs 156 7 l st M = am_a1 st fun o r => (am_gf (am_f M o) 8 33).bind fun w => am_nx 10 l (w :: r) M := rfl
theorem xi_156_10 : am_do xs 156 10 l st M = am_lda (am_lg l 0) 11 l st M := rfl
theorem xi_156_11 : am_do xs 156 11 l st M = am_a1 st fun o r => (am_gf (am_f M o) 8 35).bind fun w => am_nx 14 l (w :: r) M := rfl
theorem xi_156_14 : am_do xs 156 14 l st M = am_ldi (am_lg l 1) 15 l st M := rfl
theorem xi_156_15 : am_do xs 156 15 l st M = am_ial xs st 16 l M := rfl
theorem xi_156_16 : am_do xs 156 16 l st M = am_ia st fun i o r => (am_aj (am_f M o) i).bind fun x => am_nx 17 l (.long x :: r) M := rfl
theorem xi_156_17 : am_do xs 156 17 l st M = am_lda (am_lg l 0) 18 l st M := rfl
theorem xi_156_18 : am_do xs 156 18 l st M = am_a1 st fun o r => (am_gf (am_f M o) 8 30).bind fun w => am_nx 21 l (w :: r) M := rfl
theorem xi_156_21 : am_do xs 156 21 l st M = am_nx 23 l (.int 6 :: st) M := rfl
theorem xi_156_23 : am_do xs 156 23 l st M = am_lda (am_lg l 0) 24 l st M := rfl
theorem xi_156_24 : am_do xs 156 24 l st M = am_a1 st fun o r => (am_gf (am_f M o) 8 35).bind fun w => am_nx 27 l (w :: r) M := rfl
theorem xi_156_27 : am_do xs 156 27 l st M = am_ldi (am_lg l 1) 28 l st M := rfl
theorem xi_156_28 : am_do xs 156 28 l st M = am_ial xs st 29 l M := rfl
theorem xi_156_29 : am_do xs 156 29 l st M = am_i2 st fun x y r => am_nx 30 l (.int (x * y) :: r) M := rfl
theorem xi_156_30 : am_do xs 156 30 l st M = am_ia st fun i o r => (am_aj (am_f M o) i).bind fun x => am_nx 31 l (.long x :: r) M := rfl
theorem xi_156_31 : am_do xs 156 31 l st M = am_j2 st fun x y r => am_nx 32 l (.long (x * y) :: r) M := rfl
theorem xi_156_32 : am_do xs 156 32 l st M = am_j2 st fun x y r => am_nx 33 l (.long (x + y) :: r) M := rfl
theorem xi_156_33 : am_do xs 156 33 l st M = am_rtj st := rfl
theorem xi_157_0 : am_do xs 157 0 l st M = am_lda (am_lg l 0) 1 l st M := rfl
theorem xi_157_1 : am_do xs 157 1 l st M = am_ldi (am_lg l 1) 2 l st M := rfl
theorem xi_157_2 : am_do xs 157 2 l st M = am_lda (am_lg l 0) 3 l st M := rfl
theorem xi_157_3 : am_do xs 157 3 l st M = am_a1 st fun o r => (am_gf (am_f M o) 8 28).bind fun w => am_nx 6 l (w :: r) M := rfl
theorem xi_157_6 : am_do xs 157 6 l st M = am_lda (am_lg l 0) 7 l st M := rfl
theorem xi_157_7 : am_do xs 157 7 l st M = am_a1 st fun o r => (am_gf (am_f M o) 8 35).bind fun w => am_nx 10 l (w :: r) M := rfl
theorem xi_157_10 : am_do xs 157 10 l st M = am_ldi (am_lg l 1) 11 l st M := rfl
theorem xi_157_11 : am_do xs 157 11 l st M = am_ial xs st 12 l M := rfl
theorem xi_157_12 : am_do xs 157 12 l st M = am_ial xs st 13 l M := rfl
theorem xi_157_13 : am_do xs 157 13 l st M = am_nx 14 l (.int 1 :: st) M := rfl
theorem xi_157_14 : am_do xs 157 14 l st M = am_i2 st fun x y r => am_nx 15 l (.int (x - y) :: r) M := rfl
theorem xi_157_15 : am_do xs 157 15 l st M = am_inv 1 3 (.retAddr 8) st M := rfl
theorem xt_157_15 : am_to 157 15 = 156 := rfl
theorem xi_157_18 : am_do xs 157 18 l st M = am_rtj st := rfl
theorem xi_158_0 : am_do xs 158 0 l st M = am_lda (am_lg l 0) 1 l st M := rfl
theorem xi_158_1 : am_do xs 158 1 l st M = am_nx 2 l (.int 0 :: st) M := rfl
theorem xi_158_2 : am_do xs 158 2 l st M = am_put st 8 0 0 5 l M := rfl
theorem xi_158_5 : am_do xs 158 5 l st M = am_lda (am_lg l 0) 6 l st M := rfl
theorem xi_158_6 : am_do xs 158 6 l st M = am_lda (am_lg l 0) 7 l st M := rfl
theorem xi_158_7 : am_do xs 158 7 l st M = am_ldi (am_lg l 1) 8 l st M := rfl
theorem xi_158_8 : am_do xs 158 8 l st M = am_ldi (am_lg l 2) 9 l st M := rfl
theorem xi_158_9 : am_do xs 158 9 l st M = am_inv 1 3 (.retAddr 8) st M := rfl
theorem xt_158_9 : am_to 158 9 = 146 := rfl
theorem xi_158_12 : am_do xs 158 12 l st M = am_nx 13 l (.int 1 :: st) M := rfl
theorem xi_158_13 : am_do xs 158 13 l st M = am_inv 1 3 (.retAddr 8) st M := rfl
theorem xt_158_13 : am_to 158 13 = 106 := rfl
theorem xi_158_16 : am_do xs 158 16 l st M = am_i1 st fun x r => am_nx (if x = 0 then 28 else 19) l r M := rfl
theorem xi_158_19 : am_do xs 158 19 l st M = am_lda (am_lg l 0) 20 l st M := rfl
theorem xi_158_20 : am_do xs 158 20 l st M = am_ldi (am_lg l 1) 21 l st M := rfl
theorem xi_158_21 : am_do xs 158 21 l st M = am_ldi (am_lg l 2) 22 l st M := rfl
theorem xi_158_22 : am_do xs 158 22 l st M = am_inv 1 3 (.retAddr 8) st M := rfl
theorem xt_158_22 : am_to 158 22 = 156 := rfl
theorem xi_158_25 : am_do xs 158 25 l st M = am_nx 29 l st M := rfl
theorem xi_158_28 : am_do xs 158 28 l st M = am_nx 29 l (.long 0 :: st) M := rfl
theorem xi_158_29 : am_do xs 158 29 l st M = am_rtj st := rfl
theorem xi_159_0 : am_do xs 159 0 l st M = am_lda (am_lg l 0) 1 l st M := rfl
theorem xi_159_1 : am_do xs 159 1 l st M = am_nx 2 l (.int 0 :: st) M := rfl
theorem xi_159_2 : am_do xs 159 2 l st M = am_put st 8 0 0 5 l M := rfl
theorem xi_159_5 : am_do xs 159 5 l st M = am_lda (am_lg l 0) 6 l st M := rfl
theorem xi_159_6 : am_do xs 159 6 l st M = am_lda (am_lg l 0) 7 l st M := rfl
theorem xi_159_7 : am_do xs 159 7 l st M = am_ldi (am_lg l 1) 8 l st M := rfl
theorem xi_159_8 : am_do xs 159 8 l st M = am_inv 1 2 (.retAddr 8) st M := rfl
theorem xt_159_8 : am_to 159 8 = 145 := rfl
theorem xi_159_11 : am_do xs 159 11 l st M = am_nx 12 l (.int 1 :: st) M := rfl
theorem xi_159_12 : am_do xs 159 12 l st M = am_inv 1 3 (.retAddr 8) st M := rfl
theorem xt_159_12 : am_to 159 12 = 106 := rfl
theorem xi_159_15 : am_do xs 159 15 l st M = am_i1 st fun x r => am_nx (if x = 0 then 26 else 18) l r M := rfl
theorem xi_159_18 : am_do xs 159 18 l st M = am_lda (am_lg l 0) 19 l st M := rfl
theorem xi_159_19 : am_do xs 159 19 l st M = am_ldi (am_lg l 1) 20 l st M := rfl
theorem xi_159_20 : am_do xs 159 20 l st M = am_inv 1 2 (.retAddr 8) st M := rfl
theorem xt_159_20 : am_to 159 20 = 157 := rfl
theorem xi_159_23 : am_do xs 159 23 l st M = am_nx 27 l st M := rfl
theorem xi_159_26 : am_do xs 159 26 l st M = am_nx 27 l (.long 0 :: st) M := rfl
theorem xi_159_27 : am_do xs 159 27 l st M = am_rtj st := rfl
theorem xi_160_0 : am_do xs 160 0 l st M = am_lda (am_lg l 0) 1 l st M := rfl
theorem xi_160_1 : am_do xs 160 1 l st M = am_ldi (am_lg l 1) 2 l st M := rfl
theorem xi_160_2 : am_do xs 160 2 l st M = am_inv 1 2 (.retAddr 8) st M := rfl
theorem xt_160_2 : am_to 160 2 = 154 := rfl
theorem xi_160_5 : am_do xs 160 5 l st M = am_ldi (am_lg l 2) 6 l st M := rfl
theorem xi_160_6 : am_do xs 160 6 l st M = am_i1 st fun x r => am_nx (if ¬ x = 0 then 13 else 9) l r M := rfl
theorem xi_160_9 : am_do xs 160 9 l st M = am_nx 10 l (.long 0 :: st) M := rfl
theorem xi_160_10 : am_do xs 160 10 l st M = am_nx 28 l st M := rfl
theorem xi_160_13 : am_do xs 160 13 l st M = am_lda (am_lg l 0) 14 l st M := rfl
theorem xi_160_14 : am_do xs 160 14 l st M = am_a1 st fun o r => (am_gf (am_f M o) 8 22).bind fun w => am_nx 17 l (w :: r) M := rfl
theorem xi_160_17 : am_do xs 160 17 l st M = am_ldi (am_lg l 2) 18 l st M := rfl
theorem xi_160_18 : am_do xs 160 18 l st M = am_ia st fun i o r => (am_aj (am_f M o) i).bind fun x => am_nx 19 l (.long x :: r) M := rfl
theorem xi_160_19 : am_do xs 160 19 l st M = am_lda (am_lg l 0) 20 l st M := rfl
theorem xi_160_20 : am_do xs 160 20 l st M = am_a1 st fun o r => (am_gf (am_f M o) 8 22).bind fun w => am_nx 23 l (w :: r) M := rfl
theorem xi_160_23 : am_do xs 160 23 l st M = am_ldi (am_lg l 2) 24 l st M := rfl
theorem xi_160_24 : am_do xs 160 24 l st M = am_nx 25 l (.int 1 :: st) M := rfl
theorem xi_160_25 : am_do xs 160 25 l st M = am_i2 st fun x y r => am_nx 26 l (.int (x - y) :: r) M := rfl
theorem xi_160_26 : am_do xs 160 26 l st M = am_ia st fun i o r => (am_aj (am_f M o) i).bind fun x => am_nx 27 l (.long x :: r) M := rfl
theorem xi_160_27 : am_do xs 160 27 l st M = am_j2 st fun x y r => am_nx 28 l (.long (x - y) :: r) M := rfl
theorem xi_160_28 : am_do xs 160 28 l st M = am_rtj st := rfl
theorem xi_161_0 : am_do xs 161 0 l st M = am_lda (am_lg l 0) 1 l st M := rfl
theorem xi_161_1 : am_do xs 161 1 l st M = am_ldi (am_lg l 1) 2 l st M := rfl
theorem xi_161_2 : am_do xs 161 2 l st M = am_ldi (am_lg l 2) 3 l st M := rfl
theorem xi_161_3 : am_do xs 161 3 l st M = am_inv 1 3 (.retAddr 8) st M := rfl
theorem xt_161_3 : am_to 161 3 = 160 := rfl
theorem xi_161_6 : am_do xs 161 6 l st M = am_j1 st fun x r => am_nx 7 (am_s2 l 3 (.long x)) r M := rfl
theorem xi_161_7 : am_do xs 161 7 l st M = am_nx 10 l (.long 4 :: st) M := rfl
theorem xi_161_10 : am_do xs 161 10 l st M = am_ldj (am_lg l 3) 11 l st M := rfl
theorem xi_161_11 : am_do xs 161 11 l st M = am_nx 12 l (.long 0 :: st) M := rfl
theorem xi_161_12 : am_do xs 161 12 l st M = am_j2 st fun x y r => am_nx 13 l (.int (lg_cmp x y) :: r) M := rfl
theorem xi_161_13 : am_do xs 161 13 l st M = am_i1 st fun x r => am_nx (if 0 ≤ x then 21 else 16) l r M := rfl
theorem xi_161_16 : am_do xs 161 16 l st M = am_ldj (am_lg l 3) 17 l st M := rfl
theorem xi_161_17 : am_do xs 161 17 l st M = am_j1 st fun x r => am_nx 18 l (.long (-x) :: r) M := rfl
theorem xi_161_18 : am_do xs 161 18 l st M = am_nx 22 l st M := rfl
theorem xi_161_21 : am_do xs 161 21 l st M = am_ldj (am_lg l 3) 22 l st M := rfl
theorem xi_161_22 : am_do xs 161 22 l st M = am_j2 st fun x y r => am_nx 23 l (.long (x * y) :: r) M := rfl
theorem xi_161_23 : am_do xs 161 23 l st M = am_lda (am_lg l 0) 24 l st M := rfl
theorem xi_161_24 : am_do xs 161 24 l st M = am_a1 st fun o r => (am_gf (am_f M o) 8 30).bind fun w => am_nx 27 l (w :: r) M := rfl
theorem xi_161_27 : am_do xs 161 27 l st M = am_nx 29 l (.int 6 :: st) M := rfl
theorem xi_161_29 : am_do xs 161 29 l st M = am_lda (am_lg l 0) 30 l st M := rfl
theorem xi_161_30 : am_do xs 161 30 l st M = am_a1 st fun o r => (am_gf (am_f M o) 8 35).bind fun w => am_nx 33 l (w :: r) M := rfl
theorem xi_161_33 : am_do xs 161 33 l st M = am_ldi (am_lg l 1) 34 l st M := rfl
theorem xi_161_34 : am_do xs 161 34 l st M = am_ial xs st 35 l M := rfl
theorem xi_161_35 : am_do xs 161 35 l st M = am_i2 st fun x y r => am_nx 36 l (.int (x * y) :: r) M := rfl
theorem xi_161_36 : am_do xs 161 36 l st M = am_ldi (am_lg l 2) 37 l st M := rfl
theorem xi_161_37 : am_do xs 161 37 l st M = am_i2 st fun x y r => am_nx 38 l (.int (x + y) :: r) M := rfl
theorem xi_161_38 : am_do xs 161 38 l st M = am_ia st fun i o r => (am_aj (am_f M o) i).bind fun x => am_nx 39 l (.long x :: r) M := rfl
theorem xi_161_39 : am_do xs 161 39 l st M = am_j2 st fun x y r => am_nx 40 l (.int (lg_cmp x y) :: r) M := rfl
theorem xi_161_40 : am_do xs 161 40 l st M = am_i1 st fun x r => am_nx (if x ≤ 0 then 47 else 43) l r M := rfl
theorem xi_161_43 : am_do xs 161 43 l st M = am_nx 44 l (.int 1 :: st) M := rfl
theorem xi_161_44 : am_do xs 161 44 l st M = am_nx 48 l st M := rfl
theorem xi_161_47 : am_do xs 161 47 l st M = am_nx 48 l (.int 0 :: st) M := rfl
theorem xi_161_48 : am_do xs 161 48 l st M = am_rti st 2 := rfl
theorem xi_162_0 : am_do xs 162 0 l st M = am_lda (am_lg l 0) 1 l st M := rfl
theorem xi_162_1 : am_do xs 162 1 l st M = am_nx 2 l (.int 0 :: st) M := rfl
theorem xi_162_2 : am_do xs 162 2 l st M = am_put st 8 0 0 5 l M := rfl
theorem xi_162_5 : am_do xs 162 5 l st M = am_lda (am_lg l 0) 6 l st M := rfl
theorem xi_162_6 : am_do xs 162 6 l st M = am_lda (am_lg l 0) 7 l st M := rfl
theorem xi_162_7 : am_do xs 162 7 l st M = am_ldi (am_lg l 1) 8 l st M := rfl
theorem xi_162_8 : am_do xs 162 8 l st M = am_ldi (am_lg l 2) 9 l st M := rfl
theorem xi_162_9 : am_do xs 162 9 l st M = am_inv 1 3 (.retAddr 8) st M := rfl
theorem xt_162_9 : am_to 162 9 = 146 := rfl
theorem xi_162_12 : am_do xs 162 12 l st M = am_nx 13 l (.int 1 :: st) M := rfl
theorem xi_162_13 : am_do xs 162 13 l st M = am_inv 1 3 (.retAddr 8) st M := rfl
theorem xt_162_13 : am_to 162 13 = 106 := rfl
theorem xi_162_16 : am_do xs 162 16 l st M = am_i1 st fun x r => am_nx (if x = 0 then 28 else 19) l r M := rfl
theorem xi_162_19 : am_do xs 162 19 l st M = am_lda (am_lg l 0) 20 l st M := rfl
theorem xi_162_20 : am_do xs 162 20 l st M = am_ldi (am_lg l 1) 21 l st M := rfl
theorem xi_162_21 : am_do xs 162 21 l st M = am_ldi (am_lg l 2) 22 l st M := rfl
theorem xi_162_22 : am_do xs 162 22 l st M = am_inv 1 3 (.retAddr 8) st M := rfl
theorem xt_162_22 : am_to 162 22 = 160 := rfl
theorem xi_162_25 : am_do xs 162 25 l st M = am_nx 29 l st M := rfl
theorem xi_162_28 : am_do xs 162 28 l st M = am_nx 29 l (.long 0 :: st) M := rfl
theorem xi_162_29 : am_do xs 162 29 l st M = am_rtj st := rfl
theorem xi_163_0 : am_do xs 163 0 l st M = am_lda (am_lg l 0) 1 l st M := rfl
theorem xi_163_1 : am_do xs 163 1 l st M = am_nx 2 l (.int 0 :: st) M := rfl
theorem xi_163_2 : am_do xs 163 2 l st M = am_put st 8 0 0 5 l M := rfl
theorem xi_163_5 : am_do xs 163 5 l st M = am_lda (am_lg l 0) 6 l st M := rfl
theorem xi_163_6 : am_do xs 163 6 l st M = am_lda (am_lg l 0) 7 l st M := rfl
theorem xi_163_7 : am_do xs 163 7 l st M = am_ldi (am_lg l 1) 8 l st M := rfl
theorem xi_163_8 : am_do xs 163 8 l st M = am_ldi (am_lg l 2) 9 l st M := rfl
theorem xi_163_9 : am_do xs 163 9 l st M = am_inv 1 3 (.retAddr 8) st M := rfl
theorem xt_163_9 : am_to 163 9 = 146 := rfl
theorem xi_163_12 : am_do xs 163 12 l st M = am_nx 13 l (.int 1 :: st) M := rfl
theorem xi_163_13 : am_do xs 163 13 l st M = am_inv 1 3 (.retAddr 8) st M := rfl
theorem xt_163_13 : am_to 163 13 = 106 := rfl
theorem xi_163_16 : am_do xs 163 16 l st M = am_i1 st fun x r => am_nx (if x = 0 then 32 else 19) l r M := rfl
theorem xi_163_19 : am_do xs 163 19 l st M = am_lda (am_lg l 0) 20 l st M := rfl
theorem xi_163_20 : am_do xs 163 20 l st M = am_ldi (am_lg l 1) 21 l st M := rfl
theorem xi_163_21 : am_do xs 163 21 l st M = am_ldi (am_lg l 2) 22 l st M := rfl
theorem xi_163_22 : am_do xs 163 22 l st M = am_inv 1 3 (.retAddr 8) st M := rfl
theorem xt_163_22 : am_to 163 22 = 161 := rfl
theorem xi_163_25 : am_do xs 163 25 l st M = am_i1 st fun x r => am_nx (if x = 0 then 32 else 28) l r M := rfl
theorem xi_163_28 : am_do xs 163 28 l st M = am_nx 29 l (.int 1 :: st) M := rfl
theorem xi_163_29 : am_do xs 163 29 l st M = am_nx 33 l st M := rfl
theorem xi_163_32 : am_do xs 163 32 l st M = am_nx 33 l (.int 0 :: st) M := rfl
theorem xi_163_33 : am_do xs 163 33 l st M = am_rti st 2 := rfl
theorem xi_164_0 : am_do xs 164 0 l st M = am_lda (am_lg l 0) 1 l st M := rfl
theorem xi_164_1 : am_do xs 164 1 l st M = am_nx 2 l (.int 0 :: st) M := rfl
theorem xi_164_2 : am_do xs 164 2 l st M = am_put st 8 0 0 5 l M := rfl
theorem xi_164_5 : am_do xs 164 5 l st M = am_lda (am_lg l 0) 6 l st M := rfl
theorem xi_164_6 : am_do xs 164 6 l st M = am_lda (am_lg l 0) 7 l st M := rfl
theorem xi_164_7 : am_do xs 164 7 l st M = am_ldi (am_lg l 1) 8 l st M := rfl
theorem xi_164_8 : am_do xs 164 8 l st M = am_inv 1 2 (.retAddr 8) st M := rfl
theorem xt_164_8 : am_to 164 8 = 144 := rfl
theorem xi_164_11 : am_do xs 164 11 l st M = am_i1 st fun x r => am_nx (if x = 0 then 36 else 14) l r M := rfl
theorem xi_164_14 : am_do xs 164 14 l st M = am_ldi (am_lg l 2) 15 l st M := rfl
theorem xi_164_15 : am_do xs 164 15 l st M = am_i1 st fun x r => am_nx 16 l (.long x.toInt64 :: r) M := rfl
theorem xi_164_16 : am_do xs 164 16 l st M = am_nx 17 l (.long 0 :: st) M := rfl
theorem xi_164_17 : am_do xs 164 17 l st M = am_lda (am_lg l 0) 18 l st M := rfl
theorem xi_164_18 : am_do xs 164 18 l st M = am_a1 st fun o r => (am_gf (am_f M o) 8 28).bind fun w => am_nx 21 l (w :: r) M := rfl
theorem xi_164_21 : am_do xs 164 21 l st M = am_ldi (am_lg l 1) 22 l st M := rfl
theorem xi_164_22 : am_do xs 164 22 l st M = am_ial xs st 23 l M := rfl
theorem xi_164_23 : am_do xs 164 23 l st M = am_nx 24 l (.int 1 :: st) M := rfl
theorem xi_164_24 : am_do xs 164 24 l st M = am_i2 st fun x y r => am_nx 25 l (.int (x - y) :: r) M := rfl
theorem xi_164_25 : am_do xs 164 25 l st M = am_i1 st fun x r => am_nx 26 l (.long x.toInt64 :: r) M := rfl
theorem xi_164_26 : am_do xs 164 26 l st M = am_inv 0 3 (.retAddr 8) st M := rfl
theorem xt_164_26 : am_to 164 26 = 105 := rfl
theorem xi_164_29 : am_do xs 164 29 l st M = am_i1 st fun x r => am_nx (if x = 0 then 36 else 32) l r M := rfl
theorem xi_164_32 : am_do xs 164 32 l st M = am_nx 33 l (.int 1 :: st) M := rfl
theorem xi_164_33 : am_do xs 164 33 l st M = am_nx 37 l st M := rfl
theorem xi_164_36 : am_do xs 164 36 l st M = am_nx 37 l (.int 0 :: st) M := rfl
theorem xi_164_37 : am_do xs 164 37 l st M = am_nx 38 l (.int 1 :: st) M := rfl
theorem xi_164_38 : am_do xs 164 38 l st M = am_inv 1 3 (.retAddr 8) st M := rfl
theorem xt_164_38 : am_to 164 38 = 106 := rfl
theorem xi_164_41 : am_do xs 164 41 l st M = am_i1 st fun x r => am_nx (if ¬ x = 0 then 46 else 44) l r M := rfl
theorem xi_164_44 : am_do xs 164 44 l st M = am_nx 45 l (.int 0 :: st) M := rfl
theorem xi_164_45 : am_do xs 164 45 l st M = am_rti st 0 := rfl
theorem xi_164_46 : am_do xs 164 46 l st M = am_nx 47 l (.int 0 :: st) M := rfl
theorem xi_164_47 : am_do xs 164 47 l st M = am_i1 st fun x r => am_nx 48 (am_s1 l 3 (.int x)) r M := rfl
theorem xi_164_48 : am_do xs 164 48 l st M = am_nx 49 l (.int 0 :: st) M := rfl
theorem xi_164_49 : am_do xs 164 49 l st M = am_i1 st fun x r => am_nx 51 (am_s1 l 4 (.int x)) r M := rfl
theorem xi_164_51 : am_do xs 164 51 l st M = am_ldi (am_lg l 4) 53 l st M := rfl
theorem xi_164_53 : am_do xs 164 53 l st M = am_lda (am_lg l 0) 54 l st M := rfl
theorem xi_164_54 : am_do xs 164 54 l st M = am_a1 st fun o r => (am_gf (am_f M o) 8 26).bind fun w => am_nx 57 l (w :: r) M := rfl
theorem xi_164_57 : am_do xs 164 57 l st M = am_i2 st fun x y r => am_nx (if y ≤ x then 95 else 60) l r M := rfl
theorem xi_164_60 : am_do xs 164 60 l st M = am_ldi (am_lg l 3) 61 l st M := rfl
theorem xi_164_61 : am_do xs 164 61 l st M = am_lda (am_lg l 0) 62 l st M := rfl
theorem xi_164_62 : am_do xs 164 62 l st M = am_a1 st fun o r => (am_gf (am_f M o) 8 35).bind fun w => am_nx 65 l (w :: r) M := rfl
theorem xi_164_65 : am_do xs 164 65 l st M = am_ldi (am_lg l 4) 67 l st M := rfl
theorem xi_164_67 : am_do xs 164 67 l st M = am_ial xs st 68 l M := rfl
theorem xi_164_68 : am_do xs 164 68 l st M = am_ldi (am_lg l 1) 69 l st M := rfl
theorem xi_164_69 : am_do xs 164 69 l st M = am_i2 st fun x y r => am_nx (if ¬ x = y then 86 else 72) l r M := rfl
theorem xi_164_72 : am_do xs 164 72 l st M = am_lda (am_lg l 0) 73 l st M := rfl
theorem xi_164_73 : am_do xs 164 73 l st M = am_ldi (am_lg l 4) 75 l st M := rfl
theorem xi_164_75 : am_do xs 164 75 l st M = am_ldi (am_lg l 2) 76 l st M := rfl
theorem xi_164_76 : am_do xs 164 76 l st M = am_inv 1 3 (.retAddr 8) st M := rfl
theorem xt_164_76 : am_to 164 76 = 161 := rfl
theorem xi_164_79 : am_do xs 164 79 l st M = am_i1 st fun x r => am_nx (if x = 0 then 86 else 82) l r M := rfl
theorem xi_164_82 : am_do xs 164 82 l st M = am_nx 83 l (.int 1 :: st) M := rfl
theorem xi_164_83 : am_do xs 164 83 l st M = am_nx 87 l st M := rfl
theorem xi_164_86 : am_do xs 164 86 l st M = am_nx 87 l (.int 0 :: st) M := rfl
theorem xi_164_87 : am_do xs 164 87 l st M = am_i2 st fun x y r => am_nx 88 l (.int (x + y) :: r) M := rfl
theorem xi_164_88 : am_do xs 164 88 l st M = am_i1 st fun x r => am_nx 89 (am_s1 l 3 (.int x)) r M := rfl
theorem xi_164_89 : am_do xs 164 89 l st M = am_inc (am_lg l 4) 4 1 92 l st M := rfl
theorem xi_164_92 : am_do xs 164 92 l st M = am_nx 51 l st M := rfl
theorem xi_164_95 : am_do xs 164 95 l st M = am_ldi (am_lg l 3) 96 l st M := rfl
theorem xi_164_96 : am_do xs 164 96 l st M = am_rti st 0 := rfl
theorem xi_165_0 : am_do xs 165 0 l st M = am_ldi (am_lg l 1) 1 l st M := rfl
theorem xi_165_1 : am_do xs 165 1 l st M = am_i1 st fun x r => am_nx (if x = 0 then 21 else 4) l r M := rfl
theorem xi_165_4 : am_do xs 165 4 l st M = am_lda (am_lg l 0) 5 l st M := rfl
theorem xi_165_5 : am_do xs 165 5 l st M = am_a1 st fun o r => (am_gf (am_f M o) 8 35).bind fun w => am_nx 8 l (w :: r) M := rfl
theorem xi_165_8 : am_do xs 165 8 l st M = am_ldi (am_lg l 1) 9 l st M := rfl
theorem xi_165_9 : am_do xs 165 9 l st M = am_nx 10 l (.int 1 :: st) M := rfl
theorem xi_165_10 : am_do xs 165 10 l st M = am_i2 st fun x y r => am_nx 11 l (.int (x - y) :: r) M := rfl
theorem xi_165_11 : am_do xs 165 11 l st M = am_ial xs st 12 l M := rfl
theorem xi_165_12 : am_do xs 165 12 l st M = am_lda (am_lg l 0) 13 l st M := rfl
theorem xi_165_13 : am_do xs 165 13 l st M = am_a1 st fun o r => (am_gf (am_f M o) 8 35).bind fun w => am_nx 16 l (w :: r) M := rfl
theorem xi_165_16 : am_do xs 165 16 l st M = am_ldi (am_lg l 1) 17 l st M := rfl
theorem xi_165_17 : am_do xs 165 17 l st M = am_ial xs st 18 l M := rfl
theorem xi_165_18 : am_do xs 165 18 l st M = am_i2 st fun x y r => am_nx (if x = y then 25 else 21) l r M := rfl
theorem xi_165_21 : am_do xs 165 21 l st M = am_nx 22 l (.int 1 :: st) M := rfl
theorem xi_165_22 : am_do xs 165 22 l st M = am_nx 26 l st M := rfl
theorem xi_165_25 : am_do xs 165 25 l st M = am_nx 26 l (.int 0 :: st) M := rfl
theorem xi_165_26 : am_do xs 165 26 l st M = am_rti st 2 := rfl
theorem xi_166_0 : am_do xs 166 0 l st M = am_nx 1 l (.int 0 :: st) M := rfl
theorem xi_166_1 : am_do xs 166 1 l st M = am_i1 st fun x r => am_nx 2 (am_s1 l 2 (.int x)) r M := rfl
theorem xi_166_2 : am_do xs 166 2 l st M = am_lda (am_lg l 0) 3 l st M := rfl
theorem xi_166_3 : am_do xs 166 3 l st M = am_a1 st fun o r => (am_gf (am_f M o) 8 35).bind fun w => am_nx 6 l (w :: r) M := rfl
theorem xi_166_6 : am_do xs 166 6 l st M = am_ldi (am_lg l 2) 7 l st M := rfl
theorem xi_166_7 : am_do xs 166 7 l st M = am_ial xs st 8 l M := rfl
theorem xi_166_8 : am_do xs 166 8 l st M = am_ldi (am_lg l 1) 9 l st M := rfl
theorem xi_166_9 : am_do xs 166 9 l st M = am_i2 st fun x y r => am_nx (if x = y then 18 else 12) l r M := rfl
theorem xi_166_12 : am_do xs 166 12 l st M = am_inc (am_lg l 2) 2 1 15 l st M := rfl
theorem xi_166_15 : am_do xs 166 15 l st M = am_nx 2 l st M := rfl
theorem xi_166_18 : am_do xs 166 18 l st M = am_ldi (am_lg l 2) 19 l st M := rfl
theorem xi_166_19 : am_do xs 166 19 l st M = am_rti st 0 := rfl
theorem xi_167_0 : am_do xs 167 0 l st M = am_lda (am_lg l 0) 1 l st M := rfl
theorem xi_167_1 : am_do xs 167 1 l st M = am_a1 st fun o r => (am_gf (am_f M o) 8 38).bind fun w => am_nx 4 l (w :: r) M := rfl
theorem xi_167_4 : am_do xs 167 4 l st M = am_ldi (am_lg l 1) 5 l st M := rfl
theorem xi_167_5 : am_do xs 167 5 l st M = am_ia st fun i o r => (am_aj (am_f M o) i).bind fun x => am_nx 6 l (.long x :: r) M := rfl
theorem xi_167_6 : am_do xs 167 6 l st M = am_lda (am_lg l 0) 7 l st M := rfl
theorem xi_167_7 : am_do xs 167 7 l st M = am_a1 st fun o r => (am_gf (am_f M o) 8 38).bind fun w => am_nx 10 l (w :: r) M := rfl
theorem xi_167_10 : am_do xs 167 10 l st M = am_ldi (am_lg l 1) 11 l st M := rfl
theorem xi_167_11 : am_do xs 167 11 l st M = am_nx 12 l (.int 1 :: st) M := rfl
theorem xi_167_12 : am_do xs 167 12 l st M = am_i2 st fun x y r => am_nx 13 l (.int (x - y) :: r) M := rfl
theorem xi_167_13 : am_do xs 167 13 l st M = am_ia st fun i o r => (am_aj (am_f M o) i).bind fun x => am_nx 14 l (.long x :: r) M := rfl
theorem xi_167_14 : am_do xs 167 14 l st M = am_j2 st fun x y r => am_nx 15 l (.long (x - y) :: r) M := rfl
theorem xi_167_15 : am_do xs 167 15 l st M = am_lda (am_lg l 0) 16 l st M := rfl
theorem xi_167_16 : am_do xs 167 16 l st M = am_a1 st fun o r => (am_gf (am_f M o) 8 29).bind fun w => am_nx 19 l (w :: r) M := rfl
theorem xi_167_19 : am_do xs 167 19 l st M = am_lda (am_lg l 0) 20 l st M := rfl
theorem xi_167_20 : am_do xs 167 20 l st M = am_a1 st fun o r => (am_gf (am_f M o) 8 35).bind fun w => am_nx 23 l (w :: r) M := rfl
theorem xi_167_23 : am_do xs 167 23 l st M = am_ldi (am_lg l 1) 24 l st M := rfl
theorem xi_167_24 : am_do xs 167 24 l st M = am_ial xs st 25 l M := rfl
theorem xi_167_25 : am_do xs 167 25 l st M = am_ial xs st 26 l M := rfl
theorem xi_167_26 : am_do xs 167 26 l st M = am_i1 st fun x r => am_nx 27 l (.long x.toInt64 :: r) M := rfl
theorem xi_167_27 : am_do xs 167 27 l st M = am_j2 st fun x y r => am_nx 28 l (.long (x * y) :: r) M := rfl
theorem xi_167_28 : am_do xs 167 28 l st M = am_rtj st := rfl
theorem xi_168_0 : am_do xs 168 0 l st M = am_lda (am_lg l 0) 1 l st M := rfl
theorem xi_168_1 : am_do xs 168 1 l st M = am_ldi (am_lg l 1) 2 l st M := rfl
theorem xi_168_2 : am_do xs 168 2 l st M = am_nx 3 l (.int 1 :: st) M := rfl
theorem xi_168_3 : am_do xs 168 3 l st M = am_i2 st fun x y r => am_nx 4 l (.int (x - y) :: r) M := rfl
theorem xi_168_4 : am_do xs 168 4 l st M = am_inv 1 2 (.retAddr 8) st M := rfl
theorem xt_168_4 : am_to 168 4 = 157 := rfl
theorem xi_168_7 : am_do xs 168 7 l st M = am_lda (am_lg l 0) 8 l st M := rfl
theorem xi_168_8 : am_do xs 168 8 l st M = am_ldi (am_lg l 1) 9 l st M := rfl
theorem xi_168_9 : am_do xs 168 9 l st M = am_inv 1 2 (.retAddr 8) st M := rfl
theorem xt_168_9 : am_to 168 9 = 167 := rfl
theorem xi_168_12 : am_do xs 168 12 l st M = am_j2 st fun x y r => am_nx 13 l (.long (x + y) :: r) M := rfl
theorem xi_168_13 : am_do xs 168 13 l st M = am_rtj st := rfl
theorem xi_169_0 : am_do xs 169 0 l st M = am_lda (am_lg l 0) 1 l st M := rfl
theorem xi_169_1 : am_do xs 169 1 l st M = am_ldi (am_lg l 1) 2 l st M := rfl
theorem xi_169_2 : am_do xs 169 2 l st M = am_inv 1 2 (.retAddr 8) st M := rfl
theorem xt_169_2 : am_to 169 2 = 157 := rfl
theorem xi_169_5 : am_do xs 169 5 l st M = am_lda (am_lg l 0) 6 l st M := rfl
theorem xi_169_6 : am_do xs 169 6 l st M = am_ldi (am_lg l 1) 7 l st M := rfl
theorem xi_169_7 : am_do xs 169 7 l st M = am_inv 1 2 (.retAddr 8) st M := rfl
theorem xt_169_7 : am_to 169 7 = 168 := rfl
theorem xi_169_10 : am_do xs 169 10 l st M = am_j2 st fun x y r => am_nx 11 l (.long (x - y) :: r) M := rfl
theorem xi_169_11 : am_do xs 169 11 l st M = am_rtj st := rfl
theorem xi_170_0 : am_do xs 170 0 l st M = am_lda (am_lg l 0) 1 l st M := rfl
theorem xi_170_1 : am_do xs 170 1 l st M = am_nx 2 l (.int 0 :: st) M := rfl
theorem xi_170_2 : am_do xs 170 2 l st M = am_put st 8 0 0 5 l M := rfl
theorem xi_170_5 : am_do xs 170 5 l st M = am_lda (am_lg l 0) 6 l st M := rfl
theorem xi_170_6 : am_do xs 170 6 l st M = am_lda (am_lg l 0) 7 l st M := rfl
theorem xi_170_7 : am_do xs 170 7 l st M = am_ldi (am_lg l 1) 8 l st M := rfl
theorem xi_170_8 : am_do xs 170 8 l st M = am_inv 1 2 (.retAddr 8) st M := rfl
theorem xt_170_8 : am_to 170 8 = 145 := rfl
theorem xi_170_11 : am_do xs 170 11 l st M = am_nx 12 l (.int 1 :: st) M := rfl
theorem xi_170_12 : am_do xs 170 12 l st M = am_inv 1 3 (.retAddr 8) st M := rfl
theorem xt_170_12 : am_to 170 12 = 106 := rfl
theorem xi_170_15 : am_do xs 170 15 l st M = am_i1 st fun x r => am_nx (if x = 0 then 47 else 18) l r M := rfl
theorem xi_170_18 : am_do xs 170 18 l st M = am_lda (am_lg l 0) 19 l st M := rfl
theorem xi_170_19 : am_do xs 170 19 l st M = am_lda (am_lg l 0) 20 l st M := rfl
theorem xi_170_20 : am_do xs 170 20 l st M = am_ldi (am_lg l 1) 21 l st M := rfl
theorem xi_170_21 : am_do xs 170 21 l st M = am_inv 1 2 (.retAddr 8) st M := rfl
theorem xt_170_21 : am_to 170 21 = 165 := rfl
theorem xi_170_24 : am_do xs 170 24 l st M = am_i1 st fun x r => am_nx (if ¬ x = 0 then 31 else 27) l r M := rfl
theorem xi_170_27 : am_do xs 170 27 l st M = am_nx 28 l (.int 1 :: st) M := rfl
theorem xi_170_28 : am_do xs 170 28 l st M = am_nx 32 l st M := rfl
theorem xi_170_31 : am_do xs 170 31 l st M = am_nx 32 l (.int 0 :: st) M := rfl
theorem xi_170_32 : am_do xs 170 32 l st M = am_nx 33 l (.int 2 :: st) M := rfl
theorem xi_170_33 : am_do xs 170 33 l st M = am_inv 1 3 (.retAddr 8) st M := rfl
theorem xt_170_33 : am_to 170 33 = 106 := rfl
theorem xi_170_36 : am_do xs 170 36 l st M = am_i1 st fun x r => am_nx (if x = 0 then 47 else 39) l r M := rfl
theorem xi_170_39 : am_do xs 170 39 l st M = am_lda (am_lg l 0) 40 l st M := rfl
theorem xi_170_40 : am_do xs 170 40 l st M = am_ldi (am_lg l 1) 41 l st M := rfl
theorem xi_170_41 : am_do xs 170 41 l st M = am_inv 1 2 (.retAddr 8) st M := rfl
theorem xt_170_41 : am_to 170 41 = 168 := rfl
theorem xi_170_44 : am_do xs 170 44 l st M = am_nx 48 l st M := rfl
theorem xi_170_47 : am_do xs 170 47 l st M = am_nx 48 l (.long 0 :: st) M := rfl
theorem xi_170_48 : am_do xs 170 48 l st M = am_rtj st := rfl
theorem xi_171_0 : am_do xs 171 0 l st M = am_lda (am_lg l 0) 1 l st M := rfl
theorem xi_171_1 : am_do xs 171 1 l st M = am_nx 2 l (.int 0 :: st) M := rfl
theorem xi_171_2 : am_do xs 171 2 l st M = am_put st 8 0 0 5 l M := rfl
theorem xi_171_5 : am_do xs 171 5 l st M = am_lda (am_lg l 0) 6 l st M := rfl
theorem xi_171_6 : am_do xs 171 6 l st M = am_lda (am_lg l 0) 7 l st M := rfl
theorem xi_171_7 : am_do xs 171 7 l st M = am_ldi (am_lg l 1) 8 l st M := rfl
theorem xi_171_8 : am_do xs 171 8 l st M = am_inv 1 2 (.retAddr 8) st M := rfl
theorem xt_171_8 : am_to 171 8 = 145 := rfl
theorem xi_171_11 : am_do xs 171 11 l st M = am_nx 12 l (.int 1 :: st) M := rfl
theorem xi_171_12 : am_do xs 171 12 l st M = am_inv 1 3 (.retAddr 8) st M := rfl
theorem xt_171_12 : am_to 171 12 = 106 := rfl
theorem xi_171_15 : am_do xs 171 15 l st M = am_i1 st fun x r => am_nx (if x = 0 then 47 else 18) l r M := rfl
theorem xi_171_18 : am_do xs 171 18 l st M = am_lda (am_lg l 0) 19 l st M := rfl
theorem xi_171_19 : am_do xs 171 19 l st M = am_lda (am_lg l 0) 20 l st M := rfl
theorem xi_171_20 : am_do xs 171 20 l st M = am_ldi (am_lg l 1) 21 l st M := rfl
theorem xi_171_21 : am_do xs 171 21 l st M = am_inv 1 2 (.retAddr 8) st M := rfl
theorem xt_171_21 : am_to 171 21 = 165 := rfl
theorem xi_171_24 : am_do xs 171 24 l st M = am_i1 st fun x r => am_nx (if ¬ x = 0 then 31 else 27) l r M := rfl
theorem xi_171_27 : am_do xs 171 27 l st M = am_nx 28 l (.int 1 :: st) M := rfl
theorem xi_171_28 : am_do xs 171 28 l st M = am_nx 32 l st M := rfl
theorem xi_171_31 : am_do xs 171 31 l st M = am_nx 32 l (.int 0 :: st) M := rfl
theorem xi_171_32 : am_do xs 171 32 l st M = am_nx 33 l (.int 2 :: st) M := rfl
theorem xi_171_33 : am_do xs 171 33 l st M = am_inv 1 3 (.retAddr 8) st M := rfl
theorem xt_171_33 : am_to 171 33 = 106 := rfl
theorem xi_171_36 : am_do xs 171 36 l st M = am_i1 st fun x r => am_nx (if x = 0 then 47 else 39) l r M := rfl
theorem xi_171_39 : am_do xs 171 39 l st M = am_lda (am_lg l 0) 40 l st M := rfl
theorem xi_171_40 : am_do xs 171 40 l st M = am_ldi (am_lg l 1) 41 l st M := rfl
theorem xi_171_41 : am_do xs 171 41 l st M = am_inv 1 2 (.retAddr 8) st M := rfl
theorem xt_171_41 : am_to 171 41 = 169 := rfl
theorem xi_171_44 : am_do xs 171 44 l st M = am_nx 48 l st M := rfl
theorem xi_171_47 : am_do xs 171 47 l st M = am_nx 48 l (.long 0 :: st) M := rfl
theorem xi_171_48 : am_do xs 171 48 l st M = am_rtj st := rfl
theorem xi_172_0 : am_do xs 172 0 l st M = am_lda (am_lg l 0) 1 l st M := rfl
theorem xi_172_1 : am_do xs 172 1 l st M = am_nx 2 l (.int 0 :: st) M := rfl
theorem xi_172_2 : am_do xs 172 2 l st M = am_put st 8 0 0 5 l M := rfl
theorem xi_172_5 : am_do xs 172 5 l st M = am_lda (am_lg l 0) 6 l st M := rfl
theorem xi_172_6 : am_do xs 172 6 l st M = am_ldj (am_lg l 1) 7 l st M := rfl
theorem xi_172_7 : am_do xs 172 7 l st M = am_nx 8 l (.long 0 :: st) M := rfl
theorem xi_172_8 : am_do xs 172 8 l st M = am_nx 11 l (.long 1000000000 :: st) M := rfl
theorem xi_172_11 : am_do xs 172 11 l st M = am_inv 0 3 (.retAddr 8) st M := rfl
theorem xt_172_11 : am_to 172 11 = 105 := rfl
theorem xi_172_14 : am_do xs 172 14 l st M = am_nx 15 l (.int 1 :: st) M := rfl
theorem xi_172_15 : am_do xs 172 15 l st M = am_inv 1 3 (.retAddr 8) st M := rfl
theorem xt_172_15 : am_to 172 15 = 106 := rfl
theorem xi_172_18 : am_do xs 172 18 l st M = am_i1 st fun x r => am_nx (if ¬ x = 0 then 23 else 21) l r M := rfl
theorem xi_172_21 : am_do xs 172 21 l st M = am_nx 22 l (.long 0 :: st) M := rfl
theorem xi_172_22 : am_do xs 172 22 l st M = am_rtj st := rfl
theorem xi_172_23 : am_do xs 172 23 l st M = am_lda (am_lg l 0) 24 l st M := rfl
theorem xi_172_24 : am_do xs 172 24 l st M = am_a1 st fun o r => (am_gf (am_f M o) 8 40).bind fun w => am_nx 27 l (w :: r) M := rfl
theorem xi_172_27 : am_do xs 172 27 l st M = am_j1 st fun x r => am_nx 28 (am_s2 l 3 (.long x)) r M := rfl
theorem xi_172_28 : am_do xs 172 28 l st M = am_lda (am_lg l 0) 29 l st M := rfl
theorem xi_172_29 : am_do xs 172 29 l st M = am_ldj (am_lg l 1) 30 l st M := rfl
theorem xi_172_30 : am_do xs 172 30 l st M = am_put st 8 40 1 33 l M := rfl
theorem xi_172_33 : am_do xs 172 33 l st M = am_ldj (am_lg l 3) 34 l st M := rfl
theorem xi_172_34 : am_do xs 172 34 l st M = am_rtj st := rfl
theorem xi_173_0 : am_do xs 173 0 l st M = am_lda (am_lg l 0) 1 l st M := rfl
theorem xi_173_1 : am_do xs 173 1 l st M = am_nx 2 l (.int 0 :: st) M := rfl
theorem xi_173_2 : am_do xs 173 2 l st M = am_put st 8 0 0 5 l M := rfl
theorem xi_173_5 : am_do xs 173 5 l st M = am_lda (am_lg l 0) 6 l st M := rfl
theorem xi_173_6 : am_do xs 173 6 l st M = am_lda (am_lg l 0) 7 l st M := rfl
theorem xi_173_7 : am_do xs 173 7 l st M = am_ldi (am_lg l 1) 8 l st M := rfl
theorem xi_173_8 : am_do xs 173 8 l st M = am_inv 1 2 (.retAddr 8) st M := rfl
theorem xt_173_8 : am_to 173 8 = 144 := rfl
theorem xi_173_11 : am_do xs 173 11 l st M = am_nx 12 l (.int 1 :: st) M := rfl
theorem xi_173_12 : am_do xs 173 12 l st M = am_inv 1 3 (.retAddr 8) st M := rfl
theorem xt_173_12 : am_to 173 12 = 106 := rfl
theorem xi_173_15 : am_do xs 173 15 l st M = am_i1 st fun x r => am_nx (if ¬ x = 0 then 20 else 18) l r M := rfl
theorem xi_173_18 : am_do xs 173 18 l st M = am_nx 19 l (.int 0 :: st) M := rfl
theorem xi_173_19 : am_do xs 173 19 l st M = am_rti st 0 := rfl
theorem xi_173_20 : am_do xs 173 20 l st M = am_nx 21 l (.int 0 :: st) M := rfl
theorem xi_173_21 : am_do xs 173 21 l st M = am_i1 st fun x r => am_nx 22 (am_s1 l 2 (.int x)) r M := rfl
theorem xi_173_22 : am_do xs 173 22 l st M = am_nx 23 l (.int 0 :: st) M := rfl
theorem xi_173_23 : am_do xs 173 23 l st M = am_i1 st fun x r => am_nx 24 (am_s1 l 3 (.int x)) r M := rfl
theorem xi_173_24 : am_do xs 173 24 l st M = am_ldi (am_lg l 3) 25 l st M := rfl
theorem xi_173_25 : am_do xs 173 25 l st M = am_lda (am_lg l 0) 26 l st M := rfl
theorem xi_173_26 : am_do xs 173 26 l st M = am_a1 st fun o r => (am_gf (am_f M o) 8 26).bind fun w => am_nx 29 l (w :: r) M := rfl
theorem xi_173_29 : am_do xs 173 29 l st M = am_i2 st fun x y r => am_nx (if y ≤ x then 87 else 32) l r M := rfl
theorem xi_173_32 : am_do xs 173 32 l st M = am_lda (am_lg l 0) 33 l st M := rfl
theorem xi_173_33 : am_do xs 173 33 l st M = am_a1 st fun o r => (am_gf (am_f M o) 8 35).bind fun w => am_nx 36 l (w :: r) M := rfl
theorem xi_173_36 : am_do xs 173 36 l st M = am_ldi (am_lg l 3) 37 l st M := rfl
theorem xi_173_37 : am_do xs 173 37 l st M = am_ial xs st 38 l M := rfl
theorem xi_173_38 : am_do xs 173 38 l st M = am_ldi (am_lg l 1) 39 l st M := rfl
theorem xi_173_39 : am_do xs 173 39 l st M = am_i2 st fun x y r => am_nx (if ¬ x = y then 81 else 42) l r M := rfl
theorem xi_173_42 : am_do xs 173 42 l st M = am_lda (am_lg l 0) 43 l st M := rfl
theorem xi_173_43 : am_do xs 173 43 l st M = am_ldi (am_lg l 3) 44 l st M := rfl
theorem xi_173_44 : am_do xs 173 44 l st M = am_inv 1 2 (.retAddr 8) st M := rfl
theorem xt_173_44 : am_to 173 44 = 165 := rfl
theorem xi_173_47 : am_do xs 173 47 l st M = am_i1 st fun x r => am_nx (if x = 0 then 53 else 50) l r M := rfl
theorem xi_173_50 : am_do xs 173 50 l st M = am_nx 81 l st M := rfl
theorem xi_173_53 : am_do xs 173 53 l st M = am_ldi (am_lg l 2) 54 l st M := rfl
theorem xi_173_54 : am_do xs 173 54 l st M = am_lda (am_lg l 0) 55 l st M := rfl
theorem xi_173_55 : am_do xs 173 55 l st M = am_ldi (am_lg l 3) 56 l st M := rfl
theorem xi_173_56 : am_do xs 173 56 l st M = am_inv 1 2 (.retAddr 8) st M := rfl
theorem xt_173_56 : am_to 173 56 = 169 := rfl
theorem xi_173_59 : am_do xs 173 59 l st M = am_lda (am_lg l 0) 60 l st M := rfl
theorem xi_173_60 : am_do xs 173 60 l st M = am_a1 st fun o r => (am_gf (am_f M o) 8 40).bind fun w => am_nx 63 l (w :: r) M := rfl
theorem xi_173_63 : am_do xs 173 63 l st M = am_j1 st fun x r => am_nx 64 l (.long (-x) :: r) M := rfl
theorem xi_173_64 : am_do xs 173 64 l st M = am_lda (am_lg l 0) 65 l st M := rfl
theorem xi_173_65 : am_do xs 173 65 l st M = am_a1 st fun o r => (am_gf (am_f M o) 8 40).bind fun w => am_nx 68 l (w :: r) M := rfl
theorem xi_173_68 : am_do xs 173 68 l st M = am_inv 0 3 (.retAddr 8) st M := rfl
theorem xt_173_68 : am_to 173 68 = 105 := rfl
theorem xi_173_71 : am_do xs 173 71 l st M = am_i1 st fun x r => am_nx (if x = 0 then 78 else 74) l r M := rfl
theorem xi_173_74 : am_do xs 173 74 l st M = am_nx 75 l (.int 0 :: st) M := rfl
theorem xi_173_75 : am_do xs 173 75 l st M = am_nx 79 l st M := rfl
theorem xi_173_78 : am_do xs 173 78 l st M = am_nx 79 l (.int 1 :: st) M := rfl
theorem xi_173_79 : am_do xs 173 79 l st M = am_i2 st fun x y r => am_nx 80 l (.int (x + y) :: r) M := rfl
theorem xi_173_80 : am_do xs 173 80 l st M = am_i1 st fun x r => am_nx 81 (am_s1 l 2 (.int x)) r M := rfl
theorem xi_173_81 : am_do xs 173 81 l st M = am_inc (am_lg l 3) 3 1 84 l st M := rfl
theorem xi_173_84 : am_do xs 173 84 l st M = am_nx 24 l st M := rfl
theorem xi_173_87 : am_do xs 173 87 l st M = am_ldi (am_lg l 2) 88 l st M := rfl
theorem xi_173_88 : am_do xs 173 88 l st M = am_rti st 0 := rfl
theorem xi_174_0 : am_do xs 174 0 l st M = am_nx 1 l (.double FP.dconst0 :: st) M := rfl
theorem xi_174_1 : am_do xs 174 1 l st M = am_d1 st fun x r => am_nx 2 (am_s2 l 2 (.double x)) r M := rfl
theorem xi_174_2 : am_do xs 174 2 l st M = am_nx 3 l (.int 0 :: st) M := rfl
theorem xi_174_3 : am_do xs 174 3 l st M = am_i1 st fun x r => am_nx 5 (am_s1 l 4 (.int x)) r M := rfl
theorem xi_174_5 : am_do xs 174 5 l st M = am_ldi (am_lg l 4) 7 l st M := rfl
theorem xi_174_7 : am_do xs 174 7 l st M = am_lda (am_lg l 0) 8 l st M := rfl
theorem xi_174_8 : am_do xs 174 8 l st M = am_a1 st fun o r => (am_gf (am_f M o) 8 26).bind fun w => am_nx 11 l (w :: r) M := rfl
theorem xi_174_11 : am_do xs 174 11 l st M = am_i2 st fun x y r => am_nx (if y ≤ x then 50 else 14) l r M := rfl
theorem xi_174_14 : am_do xs 174 14 l st M = am_lda (am_lg l 0) 15 l st M := rfl
theorem xi_174_15 : am_do xs 174 15 l st M = am_a1 st fun o r => (am_gf (am_f M o) 8 35).bind fun w => am_nx 18 l (w :: r) M := rfl
theorem xi_174_18 : am_do xs 174 18 l st M = am_ldi (am_lg l 4) 20 l st M := rfl
theorem xi_174_20 : am_do xs 174 20 l st M = am_ial xs st 21 l M := rfl
theorem xi_174_21 : am_do xs 174 21 l st M = am_ldi (am_lg l 1) 22 l st M := rfl
theorem xi_174_22 : am_do xs 174 22 l st M = am_i2 st fun x y r => am_nx (if ¬ x = y then 44 else 25) l r M := rfl
theorem xi_174_25 : am_do xs 174 25 l st M = am_lda (am_lg l 0) 26 l st M := rfl
theorem xi_174_26 : am_do xs 174 26 l st M = am_ldi (am_lg l 4) 28 l st M := rfl
theorem xi_174_28 : am_do xs 174 28 l st M = am_inv 1 2 (.retAddr 8) st M := rfl
theorem xt_174_28 : am_to 174 28 = 165 := rfl
theorem xi_174_31 : am_do xs 174 31 l st M = am_i1 st fun x r => am_nx (if ¬ x = 0 then 44 else 34) l r M := rfl
theorem xi_174_34 : am_do xs 174 34 l st M = am_ldd (am_lg l 2) 35 l st M := rfl
theorem xi_174_35 : am_do xs 174 35 l st M = am_lda (am_lg l 0) 36 l st M := rfl
theorem xi_174_36 : am_do xs 174 36 l st M = am_ldi (am_lg l 4) 38 l st M := rfl
theorem xi_174_38 : am_do xs 174 38 l st M = am_inv 1 2 (.retAddr 8) st M := rfl
theorem xt_174_38 : am_to 174 38 = 169 := rfl
theorem xi_174_41 : am_do xs 174 41 l st M = am_j1 st fun x r => am_nx 42 l (.double (FP.l2d x) :: r) M := rfl
theorem xi_174_42 : am_do xs 174 42 l st M = am_d2 st fun x y r => am_nx 43 l (.double (FP.dadd x y) :: r) M := rfl
theorem xi_174_43 : am_do xs 174 43 l st M = am_d1 st fun x r => am_nx 44 (am_s2 l 2 (.double x)) r M := rfl
theorem xi_174_44 : am_do xs 174 44 l st M = am_inc (am_lg l 4) 4 1 47 l st M := rfl
theorem xi_174_47 : am_do xs 174 47 l st M = am_nx 5 l st M := rfl
theorem xi_174_50 : am_do xs 174 50 l st M = am_ldd (am_lg l 2) 51 l st M := rfl
theorem xi_174_51 : am_do xs 174 51 l st M = am_lda (am_lg l 0) 52 l st M := rfl
theorem xi_174_52 : am_do xs 174 52 l st M = am_ldi (am_lg l 1) 53 l st M := rfl
theorem xi_174_53 : am_do xs 174 53 l st M = am_inv 1 2 (.retAddr 8) st M := rfl
theorem xt_174_53 : am_to 174 53 = 139 := rfl
theorem xi_174_56 : am_do xs 174 56 l st M = am_nx 57 l (.int 1 :: st) M := rfl
theorem xi_174_57 : am_do xs 174 57 l st M = am_i2 st fun x y r => am_nx 58 l (.int (x - y) :: r) M := rfl
theorem xi_174_58 : am_do xs 174 58 l st M = am_i1 st fun x r => am_nx 59 l (.double (FP.i2d x) :: r) M := rfl
theorem xi_174_59 : am_do xs 174 59 l st M = am_d2 st fun x y r => am_nx 60 l (.double (FP.ddiv x y) :: r) M := rfl
theorem xi_174_60 : am_do xs 174 60 l st M = am_rtd st := rfl
theorem xi_175_0 : am_do xs 175 0 l st M = am_lda (am_lg l 0) 1 l st M := rfl
theorem xi_175_1 : am_do xs 175 1 l st M = am_nx 2 l (.int 0 :: st) M := rfl
theorem xi_175_2 : am_do xs 175 2 l st M = am_put st 8 0 0 5 l M := rfl
theorem xi_175_5 : am_do xs 175 5 l st M = am_lda (am_lg l 0) 6 l st M := rfl
theorem xi_175_6 : am_do xs 175 6 l st M = am_lda (am_lg l 0) 7 l st M := rfl
theorem xi_175_7 : am_do xs 175 7 l st M = am_ldi (am_lg l 1) 8 l st M := rfl
theorem xi_175_8 : am_do xs 175 8 l st M = am_inv 1 2 (.retAddr 8) st M := rfl
theorem xt_175_8 : am_to 175 8 = 144 := rfl
theorem xi_175_11 : am_do xs 175 11 l st M = am_nx 12 l (.int 1 :: st) M := rfl
theorem xi_175_12 : am_do xs 175 12 l st M = am_inv 1 3 (.retAddr 8) st M := rfl
theorem xt_175_12 : am_to 175 12 = 106 := rfl
theorem xi_175_15 : am_do xs 175 15 l st M = am_i1 st fun x r => am_nx (if x = 0 then 48 else 18) l r M := rfl
theorem xi_175_18 : am_do xs 175 18 l st M = am_lda (am_lg l 0) 19 l st M := rfl
theorem xi_175_19 : am_do xs 175 19 l st M = am_lda (am_lg l 0) 20 l st M := rfl
theorem xi_175_20 : am_do xs 175 20 l st M = am_ldi (am_lg l 1) 21 l st M := rfl
theorem xi_175_21 : am_do xs 175 21 l st M = am_inv 1 2 (.retAddr 8) st M := rfl
theorem xt_175_21 : am_to 175 21 = 139 := rfl
theorem xi_175_24 : am_do xs 175 24 l st M = am_nx 25 l (.int 1 :: st) M := rfl
theorem xi_175_25 : am_do xs 175 25 l st M = am_i2 st fun x y r => am_nx (if x ≤ y then 32 else 28) l r M := rfl
theorem xi_175_28 : am_do xs 175 28 l st M = am_nx 29 l (.int 1 :: st) M := rfl
theorem xi_175_29 : am_do xs 175 29 l st M = am_nx 33 l st M := rfl
theorem xi_175_32 : am_do xs 175 32 l st M = am_nx 33 l (.int 0 :: st) M := rfl
theorem xi_175_33 : am_do xs 175 33 l st M = am_nx 34 l (.int 2 :: st) M := rfl
theorem xi_175_34 : am_do xs 175 34 l st M = am_inv 1 3 (.retAddr 8) st M := rfl
theorem xt_175_34 : am_to 175 34 = 106 := rfl
theorem xi_175_37 : am_do xs 175 37 l st M = am_i1 st fun x r => am_nx (if x = 0 then 48 else 40) l r M := rfl
theorem xi_175_40 : am_do xs 175 40 l st M = am_lda (am_lg l 0) 41 l st M := rfl
theorem xi_175_41 : am_do xs 175 41 l st M = am_ldi (am_lg l 1) 42 l st M := rfl
theorem xi_175_42 : am_do xs 175 42 l st M = am_inv 1 2 (.retAddr 8) st M := rfl
theorem xt_175_42 : am_to 175 42 = 174 := rfl
theorem xi_175_45 : am_do xs 175 45 l st M = am_nx 49 l st M := rfl
theorem xi_175_48 : am_do xs 175 48 l st M = am_nx 49 l (.double FP.dconst0 :: st) M := rfl
theorem xi_175_49 : am_do xs 175 49 l st M = am_rtd st := rfl
theorem xi_176_0 : am_do xs 176 0 l st M = am_lda (am_lg l 0) 1 l st M := rfl
theorem xi_176_1 : am_do xs 176 1 l st M = am_nx 2 l (.int 0 :: st) M := rfl
theorem xi_176_2 : am_do xs 176 2 l st M = am_put st 8 0 0 5 l M := rfl
theorem xi_176_5 : am_do xs 176 5 l st M = am_lda (am_lg l 0) 6 l st M := rfl
theorem xi_176_6 : am_do xs 176 6 l st M = am_lda (am_lg l 0) 7 l st M := rfl
theorem xi_176_7 : am_do xs 176 7 l st M = am_ldi (am_lg l 1) 8 l st M := rfl
theorem xi_176_8 : am_do xs 176 8 l st M = am_inv 1 2 (.retAddr 8) st M := rfl
theorem xt_176_8 : am_to 176 8 = 144 := rfl
theorem xi_176_11 : am_do xs 176 11 l st M = am_nx 12 l (.int 1 :: st) M := rfl
theorem xi_176_12 : am_do xs 176 12 l st M = am_inv 1 3 (.retAddr 8) st M := rfl
theorem xt_176_12 : am_to 176 12 = 106 := rfl
theorem xi_176_15 : am_do xs 176 15 l st M = am_i1 st fun x r => am_nx (if x = 0 then 40 else 18) l r M := rfl
theorem xi_176_18 : am_do xs 176 18 l st M = am_lda (am_lg l 0) 19 l st M := rfl
theorem xi_176_19 : am_do xs 176 19 l st M = am_lda (am_lg l 0) 20 l st M := rfl
theorem xi_176_20 : am_do xs 176 20 l st M = am_ldi (am_lg l 1) 21 l st M := rfl
theorem xi_176_21 : am_do xs 176 21 l st M = am_inv 1 2 (.retAddr 8) st M := rfl
theorem xt_176_21 : am_to 176 21 = 139 := rfl
theorem xi_176_24 : am_do xs 176 24 l st M = am_nx 25 l (.int 1 :: st) M := rfl
theorem xi_176_25 : am_do xs 176 25 l st M = am_i2 st fun x y r => am_nx (if x ≤ y then 32 else 28) l r M := rfl
theorem xi_176_28 : am_do xs 176 28 l st M = am_nx 29 l (.int 1 :: st) M := rfl
theorem xi_176_29 : am_do xs 176 29 l st M = am_nx 33 l st M := rfl
theorem xi_176_32 : am_do xs 176 32 l st M = am_nx 33 l (.int 0 :: st) M := rfl
theorem xi_176_33 : am_do xs 176 33 l st M = am_nx 34 l (.int 2 :: st) M := rfl
theorem xi_176_34 : am_do xs 176 34 l st M = am_inv 1 3 (.retAddr 8) st M := rfl
theorem xt_176_34 : am_to 176 34 = 106 := rfl
theorem xi_176_37 : am_do xs 176 37 l st M = am_i1 st fun x r => am_nx (if ¬ x = 0 then 42 else 40) l r M := rfl
theorem xi_176_40 : am_do xs 176 40 l st M = am_nx 41 l (.double FP.dconst0 :: st) M := rfl
theorem xi_176_41 : am_do xs 176 41 l st M = am_rtd st := rfl
theorem xi_176_42 : am_do xs 176 42 l st M = am_lda (am_lg l 0) 43 l st M := rfl
theorem xi_176_43 : am_do xs 176 43 l st M = am_ldi (am_lg l 1) 44 l st M := rfl
theorem xi_176_44 : am_do xs 176 44 l st M = am_inv 1 2 (.retAddr 8) st M := rfl
theorem xt_176_44 : am_to 176 44 = 174 := rfl
theorem xi_176_47 : am_do xs 176 47 l st M = am_d1 st fun x r => am_nx 48 (am_s2 l 2 (.double x)) r M := rfl
theorem xi_176_48 : am_do xs 176 48 l st M = am_nx 49 l (.double FP.dconst0 :: st) M := rfl
theorem xi_176_49 : am_do xs 176 49 l st M = am_d1 st fun x r => am_nx 51 (am_s2 l 4 (.double x)) r M := rfl
theorem xi_176_51 : am_do xs 176 51 l st M = am_nx 52 l (.int 0 :: st) M := rfl
theorem xi_176_52 : am_do xs 176 52 l st M = am_i1 st fun x r => am_nx 54 (am_s1 l 6 (.int x)) r M := rfl
theorem xi_176_54 : am_do xs 176 54 l st M = am_ldi (am_lg l 6) 56 l st M := rfl
theorem xi_176_56 : am_do xs 176 56 l st M = am_lda (am_lg l 0) 57 l st M := rfl
theorem xi_176_57 : am_do xs 176 57 l st M = am_a1 st fun o r => (am_gf (am_f M o) 8 26).bind fun w => am_nx 60 l (w :: r) M := rfl
theorem xi_176_60 : am_do xs 176 60 l st M = am_i2 st fun x y r => am_nx (if y ≤ x then 113 else 63) l r M := rfl
theorem xi_176_63 : am_do xs 176 63 l st M = am_lda (am_lg l 0) 64 l st M := rfl
theorem xi_176_64 : am_do xs 176 64 l st M = am_a1 st fun o r => (am_gf (am_f M o) 8 35).bind fun w => am_nx 67 l (w :: r) M := rfl
theorem xi_176_67 : am_do xs 176 67 l st M = am_ldi (am_lg l 6) 69 l st M := rfl
theorem xi_176_69 : am_do xs 176 69 l st M = am_ial xs st 70 l M := rfl
theorem xi_176_70 : am_do xs 176 70 l st M = am_ldi (am_lg l 1) 71 l st M := rfl
theorem xi_176_71 : am_do xs 176 71 l st M = am_i2 st fun x y r => am_nx (if ¬ x = y then 107 else 74) l r M := rfl
theorem xi_176_74 : am_do xs 176 74 l st M = am_lda (am_lg l 0) 75 l st M := rfl
theorem xi_176_75 : am_do xs 176 75 l st M = am_ldi (am_lg l 6) 77 l st M := rfl
theorem xi_176_77 : am_do xs 176 77 l st M = am_inv 1 2 (.retAddr 8) st M := rfl
theorem xt_176_77 : am_to 176 77 = 165 := rfl
theorem xi_176_80 : am_do xs 176 80 l st M = am_i1 st fun x r => am_nx (if x = 0 then 86 else 83) l r M := rfl
theorem xi_176_83 : am_do xs 176 83 l st M = am_nx 107 l st M := rfl
theorem xi_176_86 : am_do xs 176 86 l st M = am_lda (am_lg l 0) 87 l st M := rfl
theorem xi_176_87 : am_do xs 176 87 l st M = am_ldi (am_lg l 6) 89 l st M := rfl
theorem xi_176_89 : am_do xs 176 89 l st M = am_inv 1 2 (.retAddr 8) st M := rfl
theorem xt_176_89 : am_to 176 89 = 169 := rfl
theorem xi_176_92 : am_do xs 176 92 l st M = am_j1 st fun x r => am_nx 93 l (.double (FP.l2d x) :: r) M := rfl
theorem xi_176_93 : am_do xs 176 93 l st M = am_ldd (am_lg l 2) 94 l st M := rfl
theorem xi_176_94 : am_do xs 176 94 l st M = am_d2 st fun x y r => am_nx 95 l (.double (FP.dsub x y) :: r) M := rfl
theorem xi_176_95 : am_do xs 176 95 l st M = am_d1 st fun x r => am_nx 97 (am_s2 l 7 (.double x)) r M := rfl
theorem xi_176_97 : am_do xs 176 97 l st M = am_ldd (am_lg l 4) 99 l st M := rfl
theorem xi_176_99 : am_do xs 176 99 l st M = am_ldd (am_lg l 7) 101 l st M := rfl
theorem xi_176_101 : am_do xs 176 101 l st M = am_ldd (am_lg l 7) 103 l st M := rfl
theorem xi_176_103 : am_do xs 176 103 l st M = am_d2 st fun x y r => am_nx 104 l (.double (FP.dmul x y) :: r) M := rfl
theorem xi_176_104 : am_do xs 176 104 l st M = am_d2 st fun x y r => am_nx 105 l (.double (FP.dadd x y) :: r) M := rfl
theorem xi_176_105 : am_do xs 176 105 l st M = am_d1 st fun x r => am_nx 107 (am_s2 l 4 (.double x)) r M := rfl
theorem xi_176_107 : am_do xs 176 107 l st M = am_inc (am_lg l 6) 6 1 110 l st M := rfl
theorem xi_176_110 : am_do xs 176 110 l st M = am_nx 54 l st M := rfl
theorem xi_176_113 : am_do xs 176 113 l st M = am_ldd (am_lg l 4) 115 l st M := rfl
theorem xi_176_115 : am_do xs 176 115 l st M = am_lda (am_lg l 0) 116 l st M := rfl
theorem xi_176_116 : am_do xs 176 116 l st M = am_ldi (am_lg l 1) 117 l st M := rfl
theorem xi_176_117 : am_do xs 176 117 l st M = am_inv 1 2 (.retAddr 8) st M := rfl
theorem xt_176_117 : am_to 176 117 = 139 := rfl
theorem xi_176_120 : am_do xs 176 120 l st M = am_nx 121 l (.int 1 :: st) M := rfl
theorem xi_176_121 : am_do xs 176 121 l st M = am_i2 st fun x y r => am_nx 122 l (.int (x - y) :: r) M := rfl
theorem xi_176_122 : am_do xs 176 122 l st M = am_i1 st fun x r => am_nx 123 l (.double (FP.i2d x) :: r) M := rfl
theorem xi_176_123 : am_do xs 176 123 l st M = am_d2 st fun x y r => am_nx 124 l (.double (FP.ddiv x y) :: r) M := rfl
theorem xi_176_124 : am_do xs 176 124 l st M = am_rtd st := rfl
theorem xi_177_0 : am_do xs 177 0 l st M = am_lda (am_lg l 0) 1 l st M := rfl
theorem xi_177_1 : am_do xs 177 1 l st M = am_nx 2 l (.int 0 :: st) M := rfl
theorem xi_177_2 : am_do xs 177 2 l st M = am_put st 8 0 0 5 l M := rfl
theorem xi_177_5 : am_do xs 177 5 l st M = am_lda (am_lg l 0) 6 l st M := rfl
theorem xi_177_6 : am_do xs 177 6 l st M = am_ldi (am_lg l 1) 7 l st M := rfl
theorem xi_177_7 : am_do xs 177 7 l st M = am_i1 st fun x r => am_nx 8 l (.long x.toInt64 :: r) M := rfl
theorem xi_177_8 : am_do xs 177 8 l st M = am_nx 9 l (.long 1 :: st) M := rfl
theorem xi_177_9 : am_do xs 177 9 l st M = am_nx 12 l (.long 50 :: st) M := rfl
theorem xi_177_12 : am_do xs 177 12 l st M = am_inv 0 3 (.retAddr 8) st M := rfl
theorem xt_177_12 : am_to 177 12 = 105 := rfl
theorem xi_177_15 : am_do xs 177 15 l st M = am_nx 16 l (.int 1 :: st) M := rfl
theorem xi_177_16 : am_do xs 177 16 l st M = am_inv 1 3 (.retAddr 8) st M := rfl
theorem xt_177_16 : am_to 177 16 = 106 := rfl
theorem xi_177_19 : am_do xs 177 19 l st M = am_i1 st fun x r => am_nx (if ¬ x = 0 then 24 else 22) l r M := rfl
theorem xi_177_22 : am_do xs 177 22 l st M = am_nx 23 l (.int 0 :: st) M := rfl
theorem xi_177_23 : am_do xs 177 23 l st M = am_rti st 0 := rfl
theorem xi_177_24 : am_do xs 177 24 l st M = am_lda (am_lg l 0) 25 l st M := rfl
theorem xi_177_25 : am_do xs 177 25 l st M = am_a1 st fun o r => (am_gf (am_f M o) 8 41).bind fun w => am_nx 28 l (w :: r) M := rfl
theorem xi_177_28 : am_do xs 177 28 l st M = am_i1 st fun x r => am_nx 29 (am_s1 l 2 (.int x)) r M := rfl
theorem xi_177_29 : am_do xs 177 29 l st M = am_lda (am_lg l 0) 30 l st M := rfl
theorem xi_177_30 : am_do xs 177 30 l st M = am_ldi (am_lg l 1) 31 l st M := rfl
theorem xi_177_31 : am_do xs 177 31 l st M = am_put st 8 41 0 34 l M := rfl
theorem xi_177_34 : am_do xs 177 34 l st M = am_ldi (am_lg l 2) 35 l st M := rfl
theorem xi_177_35 : am_do xs 177 35 l st M = am_rti st 0 := rfl
theorem xi_178_0 : am_do xs 178 0 l st M = am_lda (am_lg l 0) 1 l st M := rfl
theorem xi_178_1 : am_do xs 178 1 l st M = am_lda (am_lg l 0) 2 l st M := rfl
theorem xi_178_2 : am_do xs 178 2 l st M = am_a1 st fun o r => (am_gf (am_f M o) 8 35).bind fun w => am_nx 5 l (w :: r) M := rfl
theorem xi_178_5 : am_do xs 178 5 l st M = am_ldi (am_lg l 1) 6 l st M := rfl
theorem xi_178_6 : am_do xs 178 6 l st M = am_ial xs st 7 l M := rfl
theorem xi_178_7 : am_do xs 178 7 l st M = am_inv 1 2 (.retAddr 8) st M := rfl
theorem xt_178_7 : am_to 178 7 = 166 := rfl
theorem xi_178_10 : am_do xs 178 10 l st M = am_i1 st fun x r => am_nx 11 (am_s1 l 2 (.int x)) r M := rfl
theorem xi_178_11 : am_do xs 178 11 l st M = am_lda (am_lg l 0) 12 l st M := rfl
theorem xi_178_12 : am_do xs 178 12 l st M = am_ldi (am_lg l 2) 13 l st M := rfl
theorem xi_178_13 : am_do xs 178 13 l st M = am_inv 1 2 (.retAddr 8) st M := rfl
theorem xt_178_13 : am_to 178 13 = 157 := rfl
theorem xi_178_16 : am_do xs 178 16 l st M = am_j1 st fun x r => am_nx 17 (am_s2 l 3 (.long x)) r M := rfl
theorem xi_178_17 : am_do xs 178 17 l st M = am_ldi (am_lg l 2) 18 l st M := rfl
theorem xi_178_18 : am_do xs 178 18 l st M = am_nx 19 l (.int 1 :: st) M := rfl
theorem xi_178_19 : am_do xs 178 19 l st M = am_i2 st fun x y r => am_nx 20 l (.int (x + y) :: r) M := rfl
theorem xi_178_20 : am_do xs 178 20 l st M = am_i1 st fun x r => am_nx 22 (am_s1 l 5 (.int x)) r M := rfl
theorem xi_178_22 : am_do xs 178 22 l st M = am_ldi (am_lg l 5) 24 l st M := rfl
theorem xi_178_24 : am_do xs 178 24 l st M = am_ldi (am_lg l 1) 25 l st M := rfl
theorem xi_178_25 : am_do xs 178 25 l st M = am_i2 st fun x y r => am_nx (if y < x then 90 else 28) l r M := rfl
theorem xi_178_28 : am_do xs 178 28 l st M = am_ldi (am_lg l 5) 30 l st M := rfl
theorem xi_178_30 : am_do xs 178 30 l st M = am_ldi (am_lg l 2) 31 l st M := rfl
theorem xi_178_31 : am_do xs 178 31 l st M = am_i2 st fun x y r => am_nx 32 l (.int (x - y) :: r) M := rfl
theorem xi_178_32 : am_do xs 178 32 l st M = am_nx 33 l (.int 1 :: st) M := rfl
theorem xi_178_33 : am_do xs 178 33 l st M = am_i2 st fun x y r => am_nx 34 l (.int (x + y) :: r) M := rfl
theorem xi_178_34 : am_do xs 178 34 l st M = am_lda (am_lg l 0) 35 l st M := rfl
theorem xi_178_35 : am_do xs 178 35 l st M = am_a1 st fun o r => (am_gf (am_f M o) 8 41).bind fun w => am_nx 38 l (w :: r) M := rfl
theorem xi_178_38 : am_do xs 178 38 l st M = am_i2 st fun x y r => am_nx (if y ≤ x then 50 else 41) l r M := rfl
theorem xi_178_41 : am_do xs 178 41 l st M = am_ldi (am_lg l 5) 43 l st M := rfl
theorem xi_178_43 : am_do xs 178 43 l st M = am_ldi (am_lg l 2) 44 l st M := rfl
theorem xi_178_44 : am_do xs 178 44 l st M = am_i2 st fun x y r => am_nx 45 l (.int (x - y) :: r) M := rfl
theorem xi_178_45 : am_do xs 178 45 l st M = am_nx 46 l (.int 1 :: st) M := rfl
theorem xi_178_46 : am_do xs 178 46 l st M = am_i2 st fun x y r => am_nx 47 l (.int (x + y) :: r) M := rfl
theorem xi_178_47 : am_do xs 178 47 l st M = am_nx 54 l st M := rfl
theorem xi_178_50 : am_do xs 178 50 l st M = am_lda (am_lg l 0) 51 l st M := rfl
theorem xi_178_51 : am_do xs 178 51 l st M = am_a1 st fun o r => (am_gf (am_f M o) 8 41).bind fun w => am_nx 54 l (w :: r) M := rfl
theorem xi_178_54 : am_do xs 178 54 l st M = am_i1 st fun x r => am_nx 56 (am_s1 l 6 (.int x)) r M := rfl
theorem xi_178_56 : am_do xs 178 56 l st M = am_lda (am_lg l 0) 57 l st M := rfl
theorem xi_178_57 : am_do xs 178 57 l st M = am_ldi (am_lg l 5) 59 l st M := rfl
theorem xi_178_59 : am_do xs 178 59 l st M = am_inv 1 2 (.retAddr 8) st M := rfl
theorem xt_178_59 : am_to 178 59 = 157 := rfl
theorem xi_178_62 : am_do xs 178 62 l st M = am_ldi (am_lg l 6) 64 l st M := rfl
theorem xi_178_64 : am_do xs 178 64 l st M = am_nx 65 l (.int 1 :: st) M := rfl
theorem xi_178_65 : am_do xs 178 65 l st M = am_i2 st fun x y r => am_nx 66 l (.int (x - y) :: r) M := rfl
theorem xi_178_66 : am_do xs 178 66 l st M = am_i1 st fun x r => am_nx 67 l (.long x.toInt64 :: r) M := rfl
theorem xi_178_67 : am_do xs 178 67 l st M = am_ldj (am_lg l 3) 68 l st M := rfl
theorem xi_178_68 : am_do xs 178 68 l st M = am_lda (am_lg l 0) 69 l st M := rfl
theorem xi_178_69 : am_do xs 178 69 l st M = am_ldi (am_lg l 5) 71 l st M := rfl
theorem xi_178_71 : am_do xs 178 71 l st M = am_inv 1 2 (.retAddr 8) st M := rfl
theorem xt_178_71 : am_to 178 71 = 167 := rfl
theorem xi_178_74 : am_do xs 178 74 l st M = am_j2 st fun x y r => am_nx 75 l (.long (x + y) :: r) M := rfl
theorem xi_178_75 : am_do xs 178 75 l st M = am_j2 st fun x y r => am_nx 76 l (.long (x * y) :: r) M := rfl
theorem xi_178_76 : am_do xs 178 76 l st M = am_j2 st fun x y r => am_nx 77 l (.long (x + y) :: r) M := rfl
theorem xi_178_77 : am_do xs 178 77 l st M = am_ldi (am_lg l 6) 79 l st M := rfl
theorem xi_178_79 : am_do xs 178 79 l st M = am_i1 st fun x r => am_nx 80 l (.long x.toInt64 :: r) M := rfl
theorem xi_178_80 : am_do xs 178 80 l st M = am_inv 0 2 (.retAddr 8) st M := rfl
theorem xt_178_80 : am_to 178 80 = 107 := rfl
theorem xi_178_83 : am_do xs 178 83 l st M = am_j1 st fun x r => am_nx 84 (am_s2 l 3 (.long x)) r M := rfl
theorem xi_178_84 : am_do xs 178 84 l st M = am_inc (am_lg l 5) 5 1 87 l st M := rfl
theorem xi_178_87 : am_do xs 178 87 l st M = am_nx 22 l st M := rfl
theorem xi_178_90 : am_do xs 178 90 l st M = am_ldj (am_lg l 3) 91 l st M := rfl
theorem xi_178_91 : am_do xs 178 91 l st M = am_rtj st := rfl
theorem xi_179_0 : am_do xs 179 0 l st M = am_lda (am_lg l 0) 1 l st M := rfl
theorem xi_179_1 : am_do xs 179 1 l st M = am_nx 2 l (.int 0 :: st) M := rfl
theorem xi_179_2 : am_do xs 179 2 l st M = am_put st 8 0 0 5 l M := rfl
theorem xi_179_5 : am_do xs 179 5 l st M = am_lda (am_lg l 0) 6 l st M := rfl
theorem xi_179_6 : am_do xs 179 6 l st M = am_lda (am_lg l 0) 7 l st M := rfl
theorem xi_179_7 : am_do xs 179 7 l st M = am_ldi (am_lg l 1) 8 l st M := rfl
theorem xi_179_8 : am_do xs 179 8 l st M = am_inv 1 2 (.retAddr 8) st M := rfl
theorem xt_179_8 : am_to 179 8 = 145 := rfl
theorem xi_179_11 : am_do xs 179 11 l st M = am_nx 12 l (.int 1 :: st) M := rfl
theorem xi_179_12 : am_do xs 179 12 l st M = am_inv 1 3 (.retAddr 8) st M := rfl
theorem xt_179_12 : am_to 179 12 = 106 := rfl
theorem xi_179_15 : am_do xs 179 15 l st M = am_i1 st fun x r => am_nx (if x = 0 then 26 else 18) l r M := rfl
theorem xi_179_18 : am_do xs 179 18 l st M = am_lda (am_lg l 0) 19 l st M := rfl
theorem xi_179_19 : am_do xs 179 19 l st M = am_ldi (am_lg l 1) 20 l st M := rfl
theorem xi_179_20 : am_do xs 179 20 l st M = am_inv 1 2 (.retAddr 8) st M := rfl
theorem xt_179_20 : am_to 179 20 = 178 := rfl
theorem xi_179_23 : am_do xs 179 23 l st M = am_nx 27 l st M := rfl
theorem xi_179_26 : am_do xs 179 26 l st M = am_nx 27 l (.long 0 :: st) M := rfl
theorem xi_179_27 : am_do xs 179 27 l st M = am_rtj st := rfl
theorem xi_180_0 : am_do xs 180 0 l st M = am_lda (am_lg l 0) 1 l st M := rfl
theorem xi_180_1 : am_do xs 180 1 l st M = am_ldi (am_lg l 1) 2 l st M := rfl
theorem xi_180_2 : am_do xs 180 2 l st M = am_inv 1 2 (.retAddr 8) st M := rfl
theorem xt_180_2 : am_to 180 2 = 139 := rfl
theorem xi_180_5 : am_do xs 180 5 l st M = am_i1 st fun x r => am_nx 6 (am_s1 l 2 (.int x)) r M := rfl
theorem xi_180_6 : am_do xs 180 6 l st M = am_ldi (am_lg l 2) 7 l st M := rfl
theorem xi_180_7 : am_do xs 180 7 l st M = am_nx 8 l (.int 1 :: st) M := rfl
theorem xi_180_8 : am_do xs 180 8 l st M = am_i2 st fun x y r => am_nx (if x ≤ y then 42 else 11) l r M := rfl
theorem xi_180_11 : am_do xs 180 11 l st M = am_lda (am_lg l 0) 12 l st M := rfl
theorem xi_180_12 : am_do xs 180 12 l st M = am_a1 st fun o r => (am_gf (am_f M o) 8 36).bind fun w => am_nx 15 l (w :: r) M := rfl
theorem xi_180_15 : am_do xs 180 15 l st M = am_lda (am_lg l 0) 16 l st M := rfl
theorem xi_180_16 : am_do xs 180 16 l st M = am_ldi (am_lg l 1) 17 l st M := rfl
theorem xi_180_17 : am_do xs 180 17 l st M = am_inv 1 2 (.retAddr 8) st M := rfl
theorem xt_180_17 : am_to 180 17 = 166 := rfl
theorem xi_180_20 : am_do xs 180 20 l st M = am_ial xs st 21 l M := rfl
theorem xi_180_21 : am_do xs 180 21 l st M = am_lda (am_lg l 0) 22 l st M := rfl
theorem xi_180_22 : am_do xs 180 22 l st M = am_a1 st fun o r => (am_gf (am_f M o) 8 36).bind fun w => am_nx 25 l (w :: r) M := rfl
theorem xi_180_25 : am_do xs 180 25 l st M = am_lda (am_lg l 0) 26 l st M := rfl
theorem xi_180_26 : am_do xs 180 26 l st M = am_ldi (am_lg l 1) 27 l st M := rfl
theorem xi_180_27 : am_do xs 180 27 l st M = am_inv 1 2 (.retAddr 8) st M := rfl
theorem xt_180_27 : am_to 180 27 = 166 := rfl
theorem xi_180_30 : am_do xs 180 30 l st M = am_ldi (am_lg l 2) 31 l st M := rfl
theorem xi_180_31 : am_do xs 180 31 l st M = am_i2 st fun x y r => am_nx 32 l (.int (x + y) :: r) M := rfl
theorem xi_180_32 : am_do xs 180 32 l st M = am_nx 33 l (.int 1 :: st) M := rfl
theorem xi_180_33 : am_do xs 180 33 l st M = am_i2 st fun x y r => am_nx 34 l (.int (x - y) :: r) M := rfl
theorem xi_180_34 : am_do xs 180 34 l st M = am_ial xs st 35 l M := rfl
theorem xi_180_35 : am_do xs 180 35 l st M = am_i2 st fun x y r => am_nx (if x = y then 42 else 38) l r M := rfl
theorem xi_180_38 : am_do xs 180 38 l st M = am_nx 39 l (.int 1 :: st) M := rfl
theorem xi_180_39 : am_do xs 180 39 l st M = am_nx 43 l st M := rfl
theorem xi_180_42 : am_do xs 180 42 l st M = am_nx 43 l (.int 0 :: st) M := rfl
theorem xi_180_43 : am_do xs 180 43 l st M = am_rti st 2 := rfl
theorem xi_181_0 : am_do xs 181 0 l st M = am_lda (am_lg l 0) 1 l st M := rfl
theorem xi_181_1 : am_do xs 181 1 l st M = am_ldi (am_lg l 1) 2 l st M := rfl
theorem xi_181_2 : am_do xs 181 2 l st M = am_inv 1 2 (.retAddr 8) st M := rfl
theorem xt_181_2 : am_to 181 2 = 166 := rfl
theorem xi_181_5 : am_do xs 181 5 l st M = am_i1 st fun x r => am_nx 6 (am_s1 l 2 (.int x)) r M := rfl
theorem xi_181_6 : am_do xs 181 6 l st M = am_lda (am_lg l 0) 7 l st M := rfl
theorem xi_181_7 : am_do xs 181 7 l st M = am_ldi (am_lg l 1) 8 l st M := rfl
theorem xi_181_8 : am_do xs 181 8 l st M = am_inv 1 2 (.retAddr 8) st M := rfl
theorem xt_181_8 : am_to 181 8 = 139 := rfl
theorem xi_181_11 : am_do xs 181 11 l st M = am_i1 st fun x r => am_nx 12 (am_s1 l 3 (.int x)) r M := rfl
theorem xi_181_12 : am_do xs 181 12 l st M = am_nx 13 l (.double FP.dconst0 :: st) M := rfl
theorem xi_181_13 : am_do xs 181 13 l st M = am_d1 st fun x r => am_nx 15 (am_s2 l 4 (.double x)) r M := rfl
theorem xi_181_15 : am_do xs 181 15 l st M = am_nx 16 l (.double FP.dconst0 :: st) M := rfl
theorem xi_181_16 : am_do xs 181 16 l st M = am_d1 st fun x r => am_nx 18 (am_s2 l 6 (.double x)) r M := rfl
theorem xi_181_18 : am_do xs 181 18 l st M = am_nx 19 l (.double FP.dconst0 :: st) M := rfl
theorem xi_181_19 : am_do xs 181 19 l st M = am_d1 st fun x r => am_nx 21 (am_s2 l 8 (.double x)) r M := rfl
theorem xi_181_21 : am_do xs 181 21 l st M = am_nx 22 l (.double FP.dconst0 :: st) M := rfl
theorem xi_181_22 : am_do xs 181 22 l st M = am_d1 st fun x r => am_nx 24 (am_s2 l 10 (.double x)) r M := rfl
theorem xi_181_24 : am_do xs 181 24 l st M = am_lda (am_lg l 0) 25 l st M := rfl
theorem xi_181_25 : am_do xs 181 25 l st M = am_ldi (am_lg l 2) 26 l st M := rfl
theorem xi_181_26 : am_do xs 181 26 l st M = am_inv 1 2 (.retAddr 8) st M := rfl
theorem xt_181_26 : am_to 181 26 = 157 := rfl
theorem xi_181_29 : am_do xs 181 29 l st M = am_j1 st fun x r => am_nx 31 (am_s2 l 12 (.long x)) r M := rfl
theorem xi_181_31 : am_do xs 181 31 l st M = am_ldi (am_lg l 2) 32 l st M := rfl
theorem xi_181_32 : am_do xs 181 32 l st M = am_i1 st fun x r => am_nx 34 (am_s1 l 14 (.int x)) r M := rfl
theorem xi_181_34 : am_do xs 181 34 l st M = am_ldi (am_lg l 14) 36 l st M := rfl
theorem xi_181_36 : am_do xs 181 36 l st M = am_ldi (am_lg l 2) 37 l st M := rfl
theorem xi_181_37 : am_do xs 181 37 l st M = am_ldi (am_lg l 3) 38 l st M := rfl
theorem xi_181_38 : am_do xs 181 38 l st M = am_i2 st fun x y r => am_nx 39 l (.int (x + y) :: r) M := rfl
theorem xi_181_39 : am_do xs 181 39 l st M = am_i2 st fun x y r => am_nx (if y ≤ x then 111 else 42) l r M := rfl
theorem xi_181_42 : am_do xs 181 42 l st M = am_lda (am_lg l 0) 43 l st M := rfl
theorem xi_181_43 : am_do xs 181 43 l st M = am_a1 st fun o r => (am_gf (am_f M o) 8 36).bind fun w => am_nx 46 l (w :: r) M := rfl
theorem xi_181_46 : am_do xs 181 46 l st M = am_ldi (am_lg l 14) 48 l st M := rfl
theorem xi_181_48 : am_do xs 181 48 l st M = am_ial xs st 49 l M := rfl
theorem xi_181_49 : am_do xs 181 49 l st M = am_lda (am_lg l 0) 50 l st M := rfl
theorem xi_181_50 : am_do xs 181 50 l st M = am_a1 st fun o r => (am_gf (am_f M o) 8 36).bind fun w => am_nx 53 l (w :: r) M := rfl
theorem xi_181_53 : am_do xs 181 53 l st M = am_ldi (am_lg l 2) 54 l st M := rfl
theorem xi_181_54 : am_do xs 181 54 l st M = am_ial xs st 55 l M := rfl
theorem xi_181_55 : am_do xs 181 55 l st M = am_i2 st fun x y r => am_nx 56 l (.int (x - y) :: r) M := rfl
theorem xi_181_56 : am_do xs 181 56 l st M = am_i1 st fun x r => am_nx 57 l (.double (FP.i2d x) :: r) M := rfl
theorem xi_181_57 : am_do xs 181 57 l st M = am_d1 st fun x r => am_nx 59 (am_s2 l 15 (.double x)) r M := rfl
theorem xi_181_59 : am_do xs 181 59 l st M = am_lda (am_lg l 0) 60 l st M := rfl
theorem xi_181_60 : am_do xs 181 60 l st M = am_ldi (am_lg l 14) 62 l st M := rfl
theorem xi_181_62 : am_do xs 181 62 l st M = am_inv 1 2 (.retAddr 8) st M := rfl
theorem xt_181_62 : am_to 181 62 = 157 := rfl
theorem xi_181_65 : am_do xs 181 65 l st M = am_ldj (am_lg l 12) 67 l st M := rfl
theorem xi_181_67 : am_do xs 181 67 l st M = am_j2 st fun x y r => am_nx 68 l (.long (x - y) :: r) M := rfl
theorem xi_181_68 : am_do xs 181 68 l st M = am_j1 st fun x r => am_nx 69 l (.double (FP.l2d x) :: r) M := rfl
theorem xi_181_69 : am_do xs 181 69 l st M = am_d1 st fun x r => am_nx 71 (am_s2 l 17 (.double x)) r M := rfl
theorem xi_181_71 : am_do xs 181 71 l st M = am_ldd (am_lg l 4) 73 l st M := rfl
theorem xi_181_73 : am_do xs 181 73 l st M = am_ldd (am_lg l 15) 75 l st M := rfl
theorem xi_181_75 : am_do xs 181 75 l st M = am_d2 st fun x y r => am_nx 76 l (.double (FP.dadd x y) :: r) M := rfl
theorem xi_181_76 : am_do xs 181 76 l st M = am_d1 st fun x r => am_nx 78 (am_s2 l 4 (.double x)) r M := rfl
theorem xi_181_78 : am_do xs 181 78 l st M = am_ldd (am_lg l 6) 80 l st M := rfl
theorem xi_181_80 : am_do xs 181 80 l st M = am_ldd (am_lg l 17) 82 l st M := rfl
theorem xi_181_82 : am_do xs 181 82 l st M = am_d2 st fun x y r => am_nx 83 l (.double (FP.dadd x y) :: r) M := rfl
theorem xi_181_83 : am_do xs 181 83 l st M = am_d1 st fun x r => am_nx 85 (am_s2 l 6 (.double x)) r M := rfl
theorem xi_181_85 : am_do xs 181 85 l st M = am_ldd (am_lg l 8) 87 l st M := rfl
theorem xi_181_87 : am_do xs 181 87 l st M = am_ldd (am_lg l 15) 89 l st M := rfl
theorem xi_181_89 : am_do xs 181 89 l st M = am_ldd (am_lg l 15) 91 l st M := rfl
theorem xi_181_91 : am_do xs 181 91 l st M = am_d2 st fun x y r => am_nx 92 l (.double (FP.dmul x y) :: r) M := rfl
theorem xi_181_92 : am_do xs 181 92 l st M = am_d2 st fun x y r => am_nx 93 l (.double (FP.dadd x y) :: r) M := rfl
theorem xi_181_93 : am_do xs 181 93 l st M = am_d1 st fun x r => am_nx 95 (am_s2 l 8 (.double x)) r M := rfl
theorem xi_181_95 : am_do xs 181 95 l st M = am_ldd (am_lg l 10) 97 l st M := rfl
theorem xi_181_97 : am_do xs 181 97 l st M = am_ldd (am_lg l 15) 99 l st M := rfl
theorem xi_181_99 : am_do xs 181 99 l st M = am_ldd (am_lg l 17) 101 l st M := rfl
theorem xi_181_101 : am_do xs 181 101 l st M = am_d2 st fun x y r => am_nx 102 l (.double (FP.dmul x y) :: r) M := rfl
theorem xi_181_102 : am_do xs 181 102 l st M = am_d2 st fun x y r => am_nx 103 l (.double (FP.dadd x y) :: r) M := rfl
theorem xi_181_103 : am_do xs 181 103 l st M = am_d1 st fun x r => am_nx 105 (am_s2 l 10 (.double x)) r M := rfl
theorem xi_181_105 : am_do xs 181 105 l st M = am_inc (am_lg l 14) 14 1 108 l st M := rfl
theorem xi_181_108 : am_do xs 181 108 l st M = am_nx 34 l st M := rfl
theorem xi_181_111 : am_do xs 181 111 l st M = am_lda (am_lg l 0) 112 l st M := rfl
theorem xi_181_112 : am_do xs 181 112 l st M = am_ldi (am_lg l 3) 113 l st M := rfl
theorem xi_181_113 : am_do xs 181 113 l st M = am_i1 st fun x r => am_nx 114 l (.double (FP.i2d x) :: r) M := rfl
theorem xi_181_114 : am_do xs 181 114 l st M = am_ldd (am_lg l 10) 116 l st M := rfl
theorem xi_181_116 : am_do xs 181 116 l st M = am_d2 st fun x y r => am_nx 117 l (.double (FP.dmul x y) :: r) M := rfl
theorem xi_181_117 : am_do xs 181 117 l st M = am_ldd (am_lg l 4) 119 l st M := rfl
theorem xi_181_119 : am_do xs 181 119 l st M = am_ldd (am_lg l 6) 121 l st M := rfl
theorem xi_181_121 : am_do xs 181 121 l st M = am_d2 st fun x y r => am_nx 122 l (.double (FP.dmul x y) :: r) M := rfl
theorem xi_181_122 : am_do xs 181 122 l st M = am_d2 st fun x y r => am_nx 123 l (.double (FP.dsub x y) :: r) M := rfl
theorem xi_181_123 : am_do xs 181 123 l st M = am_ldi (am_lg l 3) 124 l st M := rfl
theorem xi_181_124 : am_do xs 181 124 l st M = am_i1 st fun x r => am_nx 125 l (.double (FP.i2d x) :: r) M := rfl
theorem xi_181_125 : am_do xs 181 125 l st M = am_ldd (am_lg l 8) 127 l st M := rfl
theorem xi_181_127 : am_do xs 181 127 l st M = am_d2 st fun x y r => am_nx 128 l (.double (FP.dmul x y) :: r) M := rfl
theorem xi_181_128 : am_do xs 181 128 l st M = am_ldd (am_lg l 4) 130 l st M := rfl
theorem xi_181_130 : am_do xs 181 130 l st M = am_ldd (am_lg l 4) 132 l st M := rfl
theorem xi_181_132 : am_do xs 181 132 l st M = am_d2 st fun x y r => am_nx 133 l (.double (FP.dmul x y) :: r) M := rfl
theorem xi_181_133 : am_do xs 181 133 l st M = am_d2 st fun x y r => am_nx 134 l (.double (FP.dsub x y) :: r) M := rfl
theorem xi_181_134 : am_do xs 181 134 l st M = am_d2 st fun x y r => am_nx 135 l (.double (FP.ddiv x y) :: r) M := rfl
theorem xi_181_135 : am_do xs 181 135 l st M = am_put st 8 42 3 138 l M := rfl
theorem xi_181_138 : am_do xs 181 138 l st M = am_lda (am_lg l 0) 139 l st M := rfl
theorem xi_181_139 : am_do xs 181 139 l st M = am_ldd (am_lg l 6) 141 l st M := rfl
theorem xi_181_141 : am_do xs 181 141 l st M = am_lda (am_lg l 0) 142 l st M := rfl
theorem xi_181_142 : am_do xs 181 142 l st M = am_a1 st fun o r => (am_gf (am_f M o) 8 42).bind fun w => am_nx 145 l (w :: r) M := rfl
theorem xi_181_145 : am_do xs 181 145 l st M = am_ldd (am_lg l 4) 147 l st M := rfl
theorem xi_181_147 : am_do xs 181 147 l st M = am_d2 st fun x y r => am_nx 148 l (.double (FP.dmul x y) :: r) M := rfl
theorem xi_181_148 : am_do xs 181 148 l st M = am_d2 st fun x y r => am_nx 149 l (.double (FP.dsub x y) :: r) M := rfl
theorem xi_181_149 : am_do xs 181 149 l st M = am_ldi (am_lg l 3) 150 l st M := rfl
theorem xi_181_150 : am_do xs 181 150 l st M = am_i1 st fun x r => am_nx 151 l (.double (FP.i2d x) :: r) M := rfl
theorem xi_181_151 : am_do xs 181 151 l st M = am_d2 st fun x y r => am_nx 152 l (.double (FP.ddiv x y) :: r) M := rfl
theorem xi_181_152 : am_do xs 181 152 l st M = am_put st 8 43 3 155 l M := rfl
theorem xi_181_155 : am_do xs 181 155 l st M = am_rtv st := rfl
theorem xi_182_0 : am_do xs 182 0 l st M = am_lda (am_lg l 0) 1 l st M := rfl
theorem xi_182_1 : am_do xs 182 1 l st M = am_ldi (am_lg l 2) 2 l st M := rfl
theorem xi_182_2 : am_do xs 182 2 l st M = am_nx 3 l (.int 1 :: st) M := rfl
theorem xi_182_3 : am_do xs 182 3 l st M = am_inv 1 3 (.retAddr 8) st M := rfl
theorem xt_182_3 : am_to 182 3 = 106 := rfl
theorem xi_182_6 : am_do xs 182 6 l st M = am_i1 st fun x r => am_nx (if x = 0 then 22 else 9) l r M := rfl
theorem xi_182_9 : am_do xs 182 9 l st M = am_lda (am_lg l 0) 10 l st M := rfl
theorem xi_182_10 : am_do xs 182 10 l st M = am_lda (am_lg l 0) 11 l st M := rfl
theorem xi_182_11 : am_do xs 182 11 l st M = am_ldi (am_lg l 1) 12 l st M := rfl
theorem xi_182_12 : am_do xs 182 12 l st M = am_inv 1 2 (.retAddr 8) st M := rfl
theorem xt_182_12 : am_to 182 12 = 180 := rfl
theorem xi_182_15 : am_do xs 182 15 l st M = am_nx 16 l (.int 2 :: st) M := rfl
theorem xi_182_16 : am_do xs 182 16 l st M = am_inv 1 3 (.retAddr 8) st M := rfl
theorem xt_182_16 : am_to 182 16 = 106 := rfl
theorem xi_182_19 : am_do xs 182 19 l st M = am_i1 st fun x r => am_nx (if ¬ x = 0 then 24 else 22) l r M := rfl
theorem xi_182_22 : am_do xs 182 22 l st M = am_nx 23 l (.int 0 :: st) M := rfl
theorem xi_182_23 : am_do xs 182 23 l st M = am_rti st 2 := rfl
theorem xi_182_24 : am_do xs 182 24 l st M = am_lda (am_lg l 0) 25 l st M := rfl
theorem xi_182_25 : am_do xs 182 25 l st M = am_ldi (am_lg l 1) 26 l st M := rfl
theorem xi_182_26 : am_do xs 182 26 l st M = am_inv 1 2 (.retAddr 8) st M := rfl
theorem xt_182_26 : am_to 182 26 = 181 := rfl
theorem xi_182_29 : am_do xs 182 29 l st M = am_nx 30 l (.int 1 :: st) M := rfl
theorem xi_182_30 : am_do xs 182 30 l st M = am_rti st 2 := rfl
theorem xi_183_0 : am_do xs 183 0 l st M = am_lda (am_lg l 0) 1 l st M := rfl
theorem xi_183_1 : am_do xs 183 1 l st M = am_nx 2 l (.int 0 :: st) M := rfl
theorem xi_183_2 : am_do xs 183 2 l st M = am_put st 8 0 0 5 l M := rfl
theorem xi_183_5 : am_do xs 183 5 l st M = am_lda (am_lg l 0) 6 l st M := rfl
theorem xi_183_6 : am_do xs 183 6 l st M = am_ldi (am_lg l 1) 7 l st M := rfl
theorem xi_183_7 : am_do xs 183 7 l st M = am_lda (am_lg l 0) 8 l st M := rfl
theorem xi_183_8 : am_do xs 183 8 l st M = am_ldi (am_lg l 1) 9 l st M := rfl
theorem xi_183_9 : am_do xs 183 9 l st M = am_inv 1 2 (.retAddr 8) st M := rfl
theorem xt_183_9 : am_to 183 9 = 144 := rfl
theorem xi_183_12 : am_do xs 183 12 l st M = am_inv 1 3 (.retAddr 8) st M := rfl
theorem xt_183_12 : am_to 183 12 = 182 := rfl
theorem xi_183_15 : am_do xs 183 15 l st M = am_i1 st fun x r => am_nx (if x = 0 then 25 else 18) l r M := rfl
theorem xi_183_18 : am_do xs 183 18 l st M = am_lda (am_lg l 0) 19 l st M := rfl
theorem xi_183_19 : am_do xs 183 19 l st M = am_a1 st fun o r => (am_gf (am_f M o) 8 42).bind fun w => am_nx 22 l (w :: r) M := rfl
theorem xi_183_22 : am_do xs 183 22 l st M = am_nx 26 l st M := rfl
theorem xi_183_25 : am_do xs 183 25 l st M = am_nx 26 l (.double FP.dconst0 :: st) M := rfl
theorem xi_183_26 : am_do xs 183 26 l st M = am_rtd st := rfl
theorem xi_184_0 : am_do xs 184 0 l st M = am_lda (am_lg l 0) 1 l st M := rfl
theorem xi_184_1 : am_do xs 184 1 l st M = am_nx 2 l (.int 0 :: st) M := rfl
theorem xi_184_2 : am_do xs 184 2 l st M = am_put st 8 0 0 5 l M := rfl
theorem xi_184_5 : am_do xs 184 5 l st M = am_lda (am_lg l 0) 6 l st M := rfl
theorem xi_184_6 : am_do xs 184 6 l st M = am_ldi (am_lg l 1) 7 l st M := rfl
theorem xi_184_7 : am_do xs 184 7 l st M = am_lda (am_lg l 0) 8 l st M := rfl
theorem xi_184_8 : am_do xs 184 8 l st M = am_ldi (am_lg l 1) 9 l st M := rfl
theorem xi_184_9 : am_do xs 184 9 l st M = am_inv 1 2 (.retAddr 8) st M := rfl
theorem xt_184_9 : am_to 184 9 = 144 := rfl
theorem xi_184_12 : am_do xs 184 12 l st M = am_inv 1 3 (.retAddr 8) st M := rfl
theorem xt_184_12 : am_to 184 12 = 182 := rfl
theorem xi_184_15 : am_do xs 184 15 l st M = am_i1 st fun x r => am_nx (if x = 0 then 25 else 18) l r M := rfl
theorem xi_184_18 : am_do xs 184 18 l st M = am_lda (am_lg l 0) 19 l st M := rfl
theorem xi_184_19 : am_do xs 184 19 l st M = am_a1 st fun o r => (am_gf (am_f M o) 8 43).bind fun w => am_nx 22 l (w :: r) M := rfl
theorem xi_184_22 : am_do xs 184 22 l st M = am_nx 26 l st M := rfl
theorem xi_184_25 : am_do xs 184 25 l st M = am_nx 26 l (.double FP.dconst0 :: st) M := rfl
theorem xi_184_26 : am_do xs 184 26 l st M = am_rtd st := rfl
theorem xi_185_0 : am_do xs 185 0 l st M = am_lda (am_lg l 0) 1 l st M := rfl
theorem xi_185_1 : am_do xs 185 1 l st M = am_nx 2 l (.int 0 :: st) M := rfl
theorem xi_185_2 : am_do xs 185 2 l st M = am_put st 8 0 0 5 l M := rfl
theorem xi_185_5 : am_do xs 185 5 l st M = am_lda (am_lg l 0) 6 l st M := rfl
theorem xi_185_6 : am_do xs 185 6 l st M = am_lda (am_lg l 0) 7 l st M := rfl
theorem xi_185_7 : am_do xs 185 7 l st M = am_ldi (am_lg l 1) 8 l st M := rfl
theorem xi_185_8 : am_do xs 185 8 l st M = am_inv 1 2 (.retAddr 8) st M := rfl
theorem xt_185_8 : am_to 185 8 = 145 := rfl
theorem xi_185_11 : am_do xs 185 11 l st M = am_nx 12 l (.int 1 :: st) M := rfl
theorem xi_185_12 : am_do xs 185 12 l st M = am_inv 1 3 (.retAddr 8) st M := rfl
theorem xt_185_12 : am_to 185 12 = 106 := rfl
theorem xi_185_15 : am_do xs 185 15 l st M = am_i1 st fun x r => am_nx (if x = 0 then 32 else 18) l r M := rfl
theorem xi_185_18 : am_do xs 185 18 l st M = am_lda (am_lg l 0) 19 l st M := rfl
theorem xi_185_19 : am_do xs 185 19 l st M = am_lda (am_lg l 0) 20 l st M := rfl
theorem xi_185_20 : am_do xs 185 20 l st M = am_a1 st fun o r => (am_gf (am_f M o) 8 35).bind fun w => am_nx 23 l (w :: r) M := rfl
theorem xi_185_23 : am_do xs 185 23 l st M = am_ldi (am_lg l 1) 24 l st M := rfl
theorem xi_185_24 : am_do xs 185 24 l st M = am_ial xs st 25 l M := rfl
theorem xi_185_25 : am_do xs 185 25 l st M = am_nx 26 l (.int 1 :: st) M := rfl
theorem xi_185_26 : am_do xs 185 26 l st M = am_inv 1 3 (.retAddr 8) st M := rfl
theorem xt_185_26 : am_to 185 26 = 182 := rfl
theorem xi_185_29 : am_do xs 185 29 l st M = am_i1 st fun x r => am_nx (if ¬ x = 0 then 34 else 32) l r M := rfl
theorem xi_185_32 : am_do xs 185 32 l st M = am_nx 33 l (.double FP.dconst0 :: st) M := rfl
theorem xi_185_33 : am_do xs 185 33 l st M = am_rtd st := rfl
theorem xi_185_34 : am_do xs 185 34 l st M = am_lda (am_lg l 0) 35 l st M := rfl
theorem xi_185_35 : am_do xs 185 35 l st M = am_lda (am_lg l 0) 36 l st M := rfl
theorem xi_185_36 : am_do xs 185 36 l st M = am_a1 st fun o r => (am_gf (am_f M o) 8 35).bind fun w => am_nx 39 l (w :: r) M := rfl
theorem xi_185_39 : am_do xs 185 39 l st M = am_ldi (am_lg l 1) 40 l st M := rfl
theorem xi_185_40 : am_do xs 185 40 l st M = am_ial xs st 41 l M := rfl
theorem xi_185_41 : am_do xs 185 41 l st M = am_inv 1 2 (.retAddr 8) st M := rfl
theorem xt_185_41 : am_to 185 41 = 166 := rfl
theorem xi_185_44 : am_do xs 185 44 l st M = am_i1 st fun x r => am_nx 45 (am_s1 l 2 (.int x)) r M := rfl
theorem xi_185_45 : am_do xs 185 45 l st M = am_lda (am_lg l 0) 46 l st M := rfl
theorem xi_185_46 : am_do xs 185 46 l st M = am_a1 st fun o r => (am_gf (am_f M o) 8 36).bind fun w => am_nx 49 l (w :: r) M := rfl
theorem xi_185_49 : am_do xs 185 49 l st M = am_ldi (am_lg l 1) 50 l st M := rfl
theorem xi_185_50 : am_do xs 185 50 l st M = am_ial xs st 51 l M := rfl
theorem xi_185_51 : am_do xs 185 51 l st M = am_lda (am_lg l 0) 52 l st M := rfl
theorem xi_185_52 : am_do xs 185 52 l st M = am_a1 st fun o r => (am_gf (am_f M o) 8 36).bind fun w => am_nx 55 l (w :: r) M := rfl
theorem xi_185_55 : am_do xs 185 55 l st M = am_ldi (am_lg l 2) 56 l st M := rfl
theorem xi_185_56 : am_do xs 185 56 l st M = am_ial xs st 57 l M := rfl
theorem xi_185_57 : am_do xs 185 57 l st M = am_i2 st fun x y r => am_nx 58 l (.int (x - y) :: r) M := rfl
theorem xi_185_58 : am_do xs 185 58 l st M = am_i1 st fun x r => am_nx 59 l (.double (FP.i2d x) :: r) M := rfl
theorem xi_185_59 : am_do xs 185 59 l st M = am_d1 st fun x r => am_nx 60 (am_s2 l 3 (.double x)) r M := rfl
theorem xi_185_60 : am_do xs 185 60 l st M = am_lda (am_lg l 0) 61 l st M := rfl
theorem xi_185_61 : am_do xs 185 61 l st M = am_ldi (am_lg l 1) 62 l st M := rfl
theorem xi_185_62 : am_do xs 185 62 l st M = am_inv 1 2 (.retAddr 8) st M := rfl
theorem xt_185_62 : am_to 185 62 = 157 := rfl
theorem xi_185_65 : am_do xs 185 65 l st M = am_lda (am_lg l 0) 66 l st M := rfl
theorem xi_185_66 : am_do xs 185 66 l st M = am_ldi (am_lg l 2) 67 l st M := rfl
theorem xi_185_67 : am_do xs 185 67 l st M = am_inv 1 2 (.retAddr 8) st M := rfl
theorem xt_185_67 : am_to 185 67 = 157 := rfl
theorem xi_185_70 : am_do xs 185 70 l st M = am_j2 st fun x y r => am_nx 71 l (.long (x - y) :: r) M := rfl
theorem xi_185_71 : am_do xs 185 71 l st M = am_j1 st fun x r => am_nx 72 l (.double (FP.l2d x) :: r) M := rfl
theorem xi_185_72 : am_do xs 185 72 l st M = am_d1 st fun x r => am_nx 74 (am_s2 l 5 (.double x)) r M := rfl
theorem xi_185_74 : am_do xs 185 74 l st M = am_ldd (am_lg l 5) 76 l st M := rfl
theorem xi_185_76 : am_do xs 185 76 l st M = am_lda (am_lg l 0) 77 l st M := rfl
theorem xi_185_77 : am_do xs 185 77 l st M = am_a1 st fun o r => (am_gf (am_f M o) 8 43).bind fun w => am_nx 80 l (w :: r) M := rfl
theorem xi_185_80 : am_do xs 185 80 l st M = am_lda (am_lg l 0) 81 l st M := rfl
theorem xi_185_81 : am_do xs 185 81 l st M = am_a1 st fun o r => (am_gf (am_f M o) 8 42).bind fun w => am_nx 84 l (w :: r) M := rfl
theorem xi_185_84 : am_do xs 185 84 l st M = am_ldd (am_lg l 3) 85 l st M := rfl
theorem xi_185_85 : am_do xs 185 85 l st M = am_d2 st fun x y r => am_nx 86 l (.double (FP.dmul x y) :: r) M := rfl
theorem xi_185_86 : am_do xs 185 86 l st M = am_d2 st fun x y r => am_nx 87 l (.double (FP.dadd x y) :: r) M := rfl
theorem xi_185_87 : am_do xs 185 87 l st M = am_d2 st fun x y r => am_nx 88 l (.double (FP.dsub x y) :: r) M := rfl
theorem xi_185_88 : am_do xs 185 88 l st M = am_rtd st := rfl
theorem xi_186_0 : am_do xs 186 0 l st M = am_lda (am_lg l 0) 1 l st M := rfl
theorem xi_186_1 : am_do xs 186 1 l st M = am_nx 2 l (.int 0 :: st) M := rfl
theorem xi_186_2 : am_do xs 186 2 l st M = am_put st 8 0 0 5 l M := rfl
theorem xi_186_5 : am_do xs 186 5 l st M = am_lda (am_lg l 0) 6 l st M := rfl
theorem xi_186_6 : am_do xs 186 6 l st M = am_ldi (am_lg l 1) 7 l st M := rfl
theorem xi_186_7 : am_do xs 186 7 l st M = am_i1 st fun x r => am_nx 8 l (.long x.toInt64 :: r) M := rfl
theorem xi_186_8 : am_do xs 186 8 l st M = am_nx 9 l (.long 1 :: st) M := rfl
theorem xi_186_9 : am_do xs 186 9 l st M = am_lda (am_lg l 0) 10 l st M := rfl
theorem xi_186_10 : am_do xs 186 10 l st M = am_a1 st fun o r => (am_gf (am_f M o) 8 25).bind fun w => am_nx 13 l (w :: r) M := rfl
theorem xi_186_13 : am_do xs 186 13 l st M = am_nx 14 l (.int 1 :: st) M := rfl
theorem xi_186_14 : am_do xs 186 14 l st M = am_i2 st fun x y r => am_nx 15 l (.int (x - y) :: r) M := rfl
theorem xi_186_15 : am_do xs 186 15 l st M = am_i1 st fun x r => am_nx 16 l (.long x.toInt64 :: r) M := rfl
theorem xi_186_16 : am_do xs 186 16 l st M = am_inv 0 3 (.retAddr 8) st M := rfl
theorem xt_186_16 : am_to 186 16 = 105 := rfl
theorem xi_186_19 : am_do xs 186 19 l st M = am_nx 20 l (.int 1 :: st) M := rfl
theorem xi_186_20 : am_do xs 186 20 l st M = am_inv 1 3 (.retAddr 8) st M := rfl
theorem xt_186_20 : am_to 186 20 = 106 := rfl
theorem xi_186_23 : am_do xs 186 23 l st M = am_i1 st fun x r => am_nx (if x = 0 then 57 else 26) l r M := rfl
theorem xi_186_26 : am_do xs 186 26 l st M = am_lda (am_lg l 0) 27 l st M := rfl
theorem xi_186_27 : am_do xs 186 27 l st M = am_lda (am_lg l 0) 28 l st M := rfl
theorem xi_186_28 : am_do xs 186 28 l st M = am_ldi (am_lg l 1) 29 l st M := rfl
theorem xi_186_29 : am_do xs 186 29 l st M = am_inv 1 2 (.retAddr 8) st M := rfl
theorem xt_186_29 : am_to 186 29 = 139 := rfl
theorem xi_186_32 : am_do xs 186 32 l st M = am_i1 st fun x r => am_nx (if x ≤ 0 then 49 else 35) l r M := rfl
theorem xi_186_35 : am_do xs 186 35 l st M = am_lda (am_lg l 0) 36 l st M := rfl
theorem xi_186_36 : am_do xs 186 36 l st M = am_ldi (am_lg l 1) 37 l st M := rfl
theorem xi_186_37 : am_do xs 186 37 l st M = am_nx 38 l (.int 1 :: st) M := rfl
theorem xi_186_38 : am_do xs 186 38 l st M = am_i2 st fun x y r => am_nx 39 l (.int (x - y) :: r) M := rfl
theorem xi_186_39 : am_do xs 186 39 l st M = am_inv 1 2 (.retAddr 8) st M := rfl
theorem xt_186_39 : am_to 186 39 = 180 := rfl
theorem xi_186_42 : am_do xs 186 42 l st M = am_i1 st fun x r => am_nx (if x = 0 then 49 else 45) l r M := rfl
theorem xi_186_45 : am_do xs 186 45 l st M = am_nx 46 l (.int 1 :: st) M := rfl
theorem xi_186_46 : am_do xs 186 46 l st M = am_nx 50 l st M := rfl
theorem xi_186_49 : am_do xs 186 49 l st M = am_nx 50 l (.int 0 :: st) M := rfl
theorem xi_186_50 : am_do xs 186 50 l st M = am_nx 51 l (.int 2 :: st) M := rfl
theorem xi_186_51 : am_do xs 186 51 l st M = am_inv 1 3 (.retAddr 8) st M := rfl
theorem xt_186_51 : am_to 186 51 = 106 := rfl
theorem xi_186_54 : am_do xs 186 54 l st M = am_i1 st fun x r => am_nx (if ¬ x = 0 then 59 else 57) l r M := rfl
theorem xi_186_57 : am_do xs 186 57 l st M = am_nx 58 l (.long 0 :: st) M := rfl
theorem xi_186_58 : am_do xs 186 58 l st M = am_rtj st := rfl
theorem xi_186_59 : am_do xs 186 59 l st M = am_lda (am_lg l 0) 60 l st M := rfl
theorem xi_186_60 : am_do xs 186 60 l st M = am_ldi (am_lg l 1) 61 l st M := rfl
theorem xi_186_61 : am_do xs 186 61 l st M = am_nx 62 l (.int 1 :: st) M := rfl
theorem xi_186_62 : am_do xs 186 62 l st M = am_i2 st fun x y r => am_nx 63 l (.int (x - y) :: r) M := rfl
theorem xi_186_63 : am_do xs 186 63 l st M = am_inv 1 2 (.retAddr 8) st M := rfl
theorem xt_186_63 : am_to 186 63 = 166 := rfl
theorem xi_186_66 : am_do xs 186 66 l st M = am_i1 st fun x r => am_nx 67 (am_s1 l 2 (.int x)) r M := rfl
theorem xi_186_67 : am_do xs 186 67 l st M = am_ldi (am_lg l 2) 68 l st M := rfl
theorem xi_186_68 : am_do xs 186 68 l st M = am_lda (am_lg l 0) 69 l st M := rfl
theorem xi_186_69 : am_do xs 186 69 l st M = am_ldi (am_lg l 1) 70 l st M := rfl
theorem xi_186_70 : am_do xs 186 70 l st M = am_nx 71 l (.int 1 :: st) M := rfl
theorem xi_186_71 : am_do xs 186 71 l st M = am_i2 st fun x y r => am_nx 72 l (.int (x - y) :: r) M := rfl
theorem xi_186_72 : am_do xs 186 72 l st M = am_inv 1 2 (.retAddr 8) st M := rfl
theorem xt_186_72 : am_to 186 72 = 139 := rfl
theorem xi_186_75 : am_do xs 186 75 l st M = am_i2 st fun x y r => am_nx 76 l (.int (x + y) :: r) M := rfl
theorem xi_186_76 : am_do xs 186 76 l st M = am_nx 77 l (.int 1 :: st) M := rfl
theorem xi_186_77 : am_do xs 186 77 l st M = am_i2 st fun x y r => am_nx 78 l (.int (x - y) :: r) M := rfl
theorem xi_186_78 : am_do xs 186 78 l st M = am_i1 st fun x r => am_nx 79 (am_s1 l 3 (.int x)) r M := rfl
theorem xi_186_79 : am_do xs 186 79 l st M = am_lda (am_lg l 0) 80 l st M := rfl
theorem xi_186_80 : am_do xs 186 80 l st M = am_ldi (am_lg l 1) 81 l st M := rfl
theorem xi_186_81 : am_do xs 186 81 l st M = am_inv 1 2 (.retAddr 8) st M := rfl
theorem xt_186_81 : am_to 186 81 = 166 := rfl
theorem xi_186_84 : am_do xs 186 84 l st M = am_i1 st fun x r => am_nx 86 (am_s1 l 4 (.int x)) r M := rfl
theorem xi_186_86 : am_do xs 186 86 l st M = am_lda (am_lg l 0) 87 l st M := rfl
theorem xi_186_87 : am_do xs 186 87 l st M = am_a1 st fun o r => (am_gf (am_f M o) 8 38).bind fun w => am_nx 90 l (w :: r) M := rfl
theorem xi_186_90 : am_do xs 186 90 l st M = am_ldi (am_lg l 3) 91 l st M := rfl
theorem xi_186_91 : am_do xs 186 91 l st M = am_ia st fun i o r => (am_aj (am_f M o) i).bind fun x => am_nx 92 l (.long x :: r) M := rfl
theorem xi_186_92 : am_do xs 186 92 l st M = am_lda (am_lg l 0) 93 l st M := rfl
theorem xi_186_93 : am_do xs 186 93 l st M = am_a1 st fun o r => (am_gf (am_f M o) 8 38).bind fun w => am_nx 96 l (w :: r) M := rfl
theorem xi_186_96 : am_do xs 186 96 l st M = am_ldi (am_lg l 2) 97 l st M := rfl
theorem xi_186_97 : am_do xs 186 97 l st M = am_ia st fun i o r => (am_aj (am_f M o) i).bind fun x => am_nx 98 l (.long x :: r) M := rfl
theorem xi_186_98 : am_do xs 186 98 l st M = am_j2 st fun x y r => am_nx 99 l (.long (x - y) :: r) M := rfl
theorem xi_186_99 : am_do xs 186 99 l st M = am_lda (am_lg l 0) 100 l st M := rfl
theorem xi_186_100 : am_do xs 186 100 l st M = am_a1 st fun o r => (am_gf (am_f M o) 8 29).bind fun w => am_nx 103 l (w :: r) M := rfl
theorem xi_186_103 : am_do xs 186 103 l st M = am_ldi (am_lg l 1) 104 l st M := rfl
theorem xi_186_104 : am_do xs 186 104 l st M = am_nx 105 l (.int 1 :: st) M := rfl
theorem xi_186_105 : am_do xs 186 105 l st M = am_i2 st fun x y r => am_nx 106 l (.int (x - y) :: r) M := rfl
theorem xi_186_106 : am_do xs 186 106 l st M = am_ial xs st 107 l M := rfl
theorem xi_186_107 : am_do xs 186 107 l st M = am_i1 st fun x r => am_nx 108 l (.long x.toInt64 :: r) M := rfl
theorem xi_186_108 : am_do xs 186 108 l st M = am_j2 st fun x y r => am_nx 109 l (.long (x * y) :: r) M := rfl
theorem xi_186_109 : am_do xs 186 109 l st M = am_lda (am_lg l 0) 110 l st M := rfl
theorem xi_186_110 : am_do xs 186 110 l st M = am_a1 st fun o r => (am_gf (am_f M o) 8 36).bind fun w => am_nx 113 l (w :: r) M := rfl
theorem xi_186_113 : am_do xs 186 113 l st M = am_ldi (am_lg l 3) 114 l st M := rfl
theorem xi_186_114 : am_do xs 186 114 l st M = am_ial xs st 115 l M := rfl
theorem xi_186_115 : am_do xs 186 115 l st M = am_lda (am_lg l 0) 116 l st M := rfl
theorem xi_186_116 : am_do xs 186 116 l st M = am_a1 st fun o r => (am_gf (am_f M o) 8 36).bind fun w => am_nx 119 l (w :: r) M := rfl
theorem xi_186_119 : am_do xs 186 119 l st M = am_ldi (am_lg l 2) 120 l st M := rfl
theorem xi_186_120 : am_do xs 186 120 l st M = am_ial xs st 121 l M := rfl
theorem xi_186_121 : am_do xs 186 121 l st M = am_i2 st fun x y r => am_nx 122 l (.int (x - y) :: r) M := rfl
theorem xi_186_122 : am_do xs 186 122 l st M = am_i1 st fun x r => am_nx 123 l (.long x.toInt64 :: r) M := rfl
theorem xi_186_123 : am_do xs 186 123 l st M = am_inv 0 2 (.retAddr 8) st M := rfl
theorem xt_186_123 : am_to 186 123 = 107 := rfl
theorem xi_186_126 : am_do xs 186 126 l st M = am_j1 st fun x r => am_nx 128 (am_s2 l 5 (.long x)) r M := rfl
theorem xi_186_128 : am_do xs 186 128 l st M = am_lda (am_lg l 0) 129 l st M := rfl
theorem xi_186_129 : am_do xs 186 129 l st M = am_ldi (am_lg l 3) 130 l st M := rfl
theorem xi_186_130 : am_do xs 186 130 l st M = am_inv 1 2 (.retAddr 8) st M := rfl
theorem xt_186_130 : am_to 186 130 = 178 := rfl
theorem xi_186_133 : am_do xs 186 133 l st M = am_ldj (am_lg l 5) 135 l st M := rfl
theorem xi_186_135 : am_do xs 186 135 l st M = am_lda (am_lg l 0) 136 l st M := rfl
theorem xi_186_136 : am_do xs 186 136 l st M = am_a1 st fun o r => (am_gf (am_f M o) 8 36).bind fun w => am_nx 139 l (w :: r) M := rfl
theorem xi_186_139 : am_do xs 186 139 l st M = am_ldi (am_lg l 4) 141 l st M := rfl
theorem xi_186_141 : am_do xs 186 141 l st M = am_ial xs st 142 l M := rfl
theorem xi_186_142 : am_do xs 186 142 l st M = am_lda (am_lg l 0) 143 l st M := rfl
theorem xi_186_143 : am_do xs 186 143 l st M = am_a1 st fun o r => (am_gf (am_f M o) 8 36).bind fun w => am_nx 146 l (w :: r) M := rfl
theorem xi_186_146 : am_do xs 186 146 l st M = am_ldi (am_lg l 3) 147 l st M := rfl
theorem xi_186_147 : am_do xs 186 147 l st M = am_ial xs st 148 l M := rfl
theorem xi_186_148 : am_do xs 186 148 l st M = am_i2 st fun x y r => am_nx 149 l (.int (x - y) :: r) M := rfl
theorem xi_186_149 : am_do xs 186 149 l st M = am_i1 st fun x r => am_nx 150 l (.long x.toInt64 :: r) M := rfl
theorem xi_186_150 : am_do xs 186 150 l st M = am_j2 st fun x y r => am_nx 151 l (.long (x * y) :: r) M := rfl
theorem xi_186_151 : am_do xs 186 151 l st M = am_j2 st fun x y r => am_nx 152 l (.long (x + y) :: r) M := rfl
theorem xi_186_152 : am_do xs 186 152 l st M = am_j1 st fun x r => am_nx 154 (am_s2 l 7 (.long x)) r M := rfl
theorem xi_186_154 : am_do xs 186 154 l st M = am_lda (am_lg l 0) 155 l st M := rfl
theorem xi_186_155 : am_do xs 186 155 l st M = am_a1 st fun o r => (am_gf (am_f M o) 8 33).bind fun w => am_nx 158 l (w :: r) M := rfl
theorem xi_186_158 : am_do xs 186 158 l st M = am_ldi (am_lg l 1) 159 l st M := rfl
theorem xi_186_159 : am_do xs 186 159 l st M = am_ldj (am_lg l 7) 161 l st M := rfl
theorem xi_186_161 : am_do xs 186 161 l st M = am_lda (am_lg l 0) 162 l st M := rfl
theorem xi_186_162 : am_do xs 186 162 l st M = am_ldi (am_lg l 4) 164 l st M := rfl
theorem xi_186_164 : am_do xs 186 164 l st M = am_lda (am_lg l 0) 165 l st M := rfl
theorem xi_186_165 : am_do xs 186 165 l st M = am_a1 st fun o r => (am_gf (am_f M o) 8 28).bind fun w => am_nx 168 l (w :: r) M := rfl
theorem xi_186_168 : am_do xs 186 168 l st M = am_ldi (am_lg l 1) 169 l st M := rfl
theorem xi_186_169 : am_do xs 186 169 l st M = am_ial xs st 170 l M := rfl
theorem xi_186_170 : am_do xs 186 170 l st M = am_nx 171 l (.int 1 :: st) M := rfl
theorem xi_186_171 : am_do xs 186 171 l st M = am_i2 st fun x y r => am_nx 172 l (.int (x - y) :: r) M := rfl
theorem xi_186_172 : am_do xs 186 172 l st M = am_inv 1 3 (.retAddr 8) st M := rfl
theorem xt_186_172 : am_to 186 172 = 155 := rfl
theorem xi_186_175 : am_do xs 186 175 l st M = am_j2 st fun x y r => am_nx 176 l (.long (x - y) :: r) M := rfl
theorem xi_186_176 : am_do xs 186 176 l st M = am_lda (am_lg l 0) 177 l st M := rfl
theorem xi_186_177 : am_do xs 186 177 l st M = am_a1 st fun o r => (am_gf (am_f M o) 8 30).bind fun w => am_nx 180 l (w :: r) M := rfl
theorem xi_186_180 : am_do xs 186 180 l st M = am_nx 182 l (.int 6 :: st) M := rfl
theorem xi_186_182 : am_do xs 186 182 l st M = am_ldi (am_lg l 1) 183 l st M := rfl
theorem xi_186_183 : am_do xs 186 183 l st M = am_i2 st fun x y r => am_nx 184 l (.int (x * y) :: r) M := rfl
theorem xi_186_184 : am_do xs 186 184 l st M = am_ia st fun i o r => (am_aj (am_f M o) i).bind fun x => am_nx 185 l (.long x :: r) M := rfl
theorem xi_186_185 : am_do xs 186 185 l st M = am_inv 0 2 (.retAddr 8) st M := rfl
theorem xt_186_185 : am_to 186 185 = 108 := rfl
theorem xi_186_188 : am_do xs 186 188 l st M = am_via st fun w i o r => (am_wj (am_f M o) i w).bind fun e => am_nx 189 l r (am_set M o e) := rfl
theorem xi_186_189 : am_do xs 186 189 l st M = am_lda (am_lg l 0) 190 l st M := rfl
theorem xi_186_190 : am_do xs 186 190 l st M = am_a1 st fun o r => (am_gf (am_f M o) 8 34).bind fun w => am_nx 193 l (w :: r) M := rfl
theorem xi_186_193 : am_do xs 186 193 l st M = am_ldi (am_lg l 1) 194 l st M := rfl
theorem xi_186_194 : am_do xs 186 194 l st M = am_nx 195 l (.int 1 :: st) M := rfl
theorem xi_186_195 : am_do xs 186 195 l st M = am_via st fun w i o r => (am_wi (am_f M o) 2 i w).bind fun e => am_nx 196 l r (am_set M o e) := rfl
theorem xi_186_196 : am_do xs 186 196 l st M = am_lda (am_lg l 0) 197 l st M := rfl
theorem xi_186_197 : am_do xs 186 197 l st M = am_a1 st fun o r => (am_gf (am_f M o) 8 33).bind fun w => am_nx 200 l (w :: r) M := rfl
theorem xi_186_200 : am_do xs 186 200 l st M = am_ldi (am_lg l 1) 201 l st M := rfl
theorem xi_186_201 : am_do xs 186 201 l st M = am_ia st fun i o r => (am_aj (am_f M o) i).bind fun x => am_nx 202 l (.long x :: r) M := rfl
theorem xi_186_202 : am_do xs 186 202 l st M = am_rtj st := rfl
theorem xi_187_0 : am_do xs 187 0 l st M = am_lda (am_lg l 0) 1 l st M := rfl
theorem xi_187_1 : am_do xs 187 1 l st M = am_nx 2 l (.int 0 :: st) M := rfl
theorem xi_187_2 : am_do xs 187 2 l st M = am_put st 8 0 0 5 l M := rfl
theorem xi_187_5 : am_do xs 187 5 l st M = am_lda (am_lg l 0) 6 l st M := rfl
theorem xi_187_6 : am_do xs 187 6 l st M = am_lda (am_lg l 0) 7 l st M := rfl
theorem xi_187_7 : am_do xs 187 7 l st M = am_ldi (am_lg l 1) 8 l st M := rfl
theorem xi_187_8 : am_do xs 187 8 l st M = am_inv 1 2 (.retAddr 8) st M := rfl
theorem xt_187_8 : am_to 187 8 = 144 := rfl
theorem xi_187_11 : am_do xs 187 11 l st M = am_nx 12 l (.int 1 :: st) M := rfl
theorem xi_187_12 : am_do xs 187 12 l st M = am_inv 1 3 (.retAddr 8) st M := rfl
theorem xt_187_12 : am_to 187 12 = 106 := rfl
theorem xi_187_15 : am_do xs 187 15 l st M = am_i1 st fun x r => am_nx (if x = 0 then 27 else 18) l r M := rfl
theorem xi_187_18 : am_do xs 187 18 l st M = am_lda (am_lg l 0) 19 l st M := rfl
theorem xi_187_19 : am_do xs 187 19 l st M = am_a1 st fun o r => (am_gf (am_f M o) 8 33).bind fun w => am_nx 22 l (w :: r) M := rfl
theorem xi_187_22 : am_do xs 187 22 l st M = am_ldi (am_lg l 1) 23 l st M := rfl
theorem xi_187_23 : am_do xs 187 23 l st M = am_ia st fun i o r => (am_aj (am_f M o) i).bind fun x => am_nx 24 l (.long x :: r) M := rfl
theorem xi_187_24 : am_do xs 187 24 l st M = am_nx 28 l st M := rfl
theorem xi_187_27 : am_do xs 187 27 l st M = am_nx 28 l (.long 0 :: st) M := rfl
theorem xi_187_28 : am_do xs 187 28 l st M = am_rtj st := rfl
theorem xi_188_0 : am_do xs 188 0 l st M = am_lda (am_lg l 0) 1 l st M := rfl
theorem xi_188_1 : am_do xs 188 1 l st M = am_nx 2 l (.int 0 :: st) M := rfl
theorem xi_188_2 : am_do xs 188 2 l st M = am_put st 8 0 0 5 l M := rfl
theorem xi_188_5 : am_do xs 188 5 l st M = am_nx 6 l (.int 0 :: st) M := rfl
theorem xi_188_6 : am_do xs 188 6 l st M = am_i1 st fun x r => am_nx 7 (am_s1 l 1 (.int x)) r M := rfl
theorem xi_188_7 : am_do xs 188 7 l st M = am_nx 8 l (.int 0 :: st) M := rfl
theorem xi_188_8 : am_do xs 188 8 l st M = am_i1 st fun x r => am_nx 9 (am_s1 l 2 (.int x)) r M := rfl
theorem xi_188_9 : am_do xs 188 9 l st M = am_nx 10 l (.int 0 :: st) M := rfl
theorem xi_188_10 : am_do xs 188 10 l st M = am_i1 st fun x r => am_nx 11 (am_s1 l 3 (.int x)) r M := rfl
theorem xi_188_11 : am_do xs 188 11 l st M = am_ldi (am_lg l 3) 12 l st M := rfl
theorem xi_188_12 : am_do xs 188 12 l st M = am_lda (am_lg l 0) 13 l st M := rfl
theorem xi_188_13 : am_do xs 188 13 l st M = am_a1 st fun o r => (am_gf (am_f M o) 8 25).bind fun w => am_nx 16 l (w :: r) M := rfl
theorem xi_188_16 : am_do xs 188 16 l st M = am_i2 st fun x y r => am_nx (if y ≤ x then 53 else 19) l r M := rfl
theorem xi_188_19 : am_do xs 188 19 l st M = am_lda (am_lg l 0) 20 l st M := rfl
theorem xi_188_20 : am_do xs 188 20 l st M = am_a1 st fun o r => (am_gf (am_f M o) 8 34).bind fun w => am_nx 23 l (w :: r) M := rfl
theorem xi_188_23 : am_do xs 188 23 l st M = am_ldi (am_lg l 3) 24 l st M := rfl
theorem xi_188_24 : am_do xs 188 24 l st M = am_ia st fun i o r => (am_ai (am_f M o) 2 i).bind fun x => am_nx 25 l (.int x :: r) M := rfl
theorem xi_188_25 : am_do xs 188 25 l st M = am_i1 st fun x r => am_nx (if x = 0 then 34 else 28) l r M := rfl
theorem xi_188_28 : am_do xs 188 28 l st M = am_ldi (am_lg l 2) 29 l st M := rfl
theorem xi_188_29 : am_do xs 188 29 l st M = am_nx 30 l (.int 1 :: st) M := rfl
theorem xi_188_30 : am_do xs 188 30 l st M = am_i2 st fun x y r => am_nx 31 l (.int (x + y) :: r) M := rfl
theorem xi_188_31 : am_do xs 188 31 l st M = am_nx 35 l st M := rfl
theorem xi_188_34 : am_do xs 188 34 l st M = am_nx 35 l (.int 1 :: st) M := rfl
theorem xi_188_35 : am_do xs 188 35 l st M = am_i1 st fun x r => am_nx 36 (am_s1 l 2 (.int x)) r M := rfl
theorem xi_188_36 : am_do xs 188 36 l st M = am_ldi (am_lg l 2) 37 l st M := rfl
theorem xi_188_37 : am_do xs 188 37 l st M = am_ldi (am_lg l 1) 38 l st M := rfl
theorem xi_188_38 : am_do xs 188 38 l st M = am_i2 st fun x y r => am_nx (if x ≤ y then 45 else 41) l r M := rfl
theorem xi_188_41 : am_do xs 188 41 l st M = am_ldi (am_lg l 2) 42 l st M := rfl
theorem xi_188_42 : am_do xs 188 42 l st M = am_nx 46 l st M := rfl
theorem xi_188_45 : am_do xs 188 45 l st M = am_ldi (am_lg l 1) 46 l st M := rfl
theorem xi_188_46 : am_do xs 188 46 l st M = am_i1 st fun x r => am_nx 47 (am_s1 l 1 (.int x)) r M := rfl
theorem xi_188_47 : am_do xs 188 47 l st M = am_inc (am_lg l 3) 3 1 50 l st M := rfl
theorem xi_188_50 : am_do xs 188 50 l st M = am_nx 11 l st M := rfl
theorem xi_188_53 : am_do xs 188 53 l st M = am_ldi (am_lg l 1) 54 l st M := rfl
theorem xi_188_54 : am_do xs 188 54 l st M = am_rti st 0 := rfl
end
