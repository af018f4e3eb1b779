theorem cb_0 : am_chb 0 = true := by decide +kernel
theorem cc_0 : am_chc 0 = true := by decide +kernel
theorem cb_1 : am_chb 1 = true := by decide +kernel
theorem cc_1 : am_chc 1 = true := by decide +kernel
theorem cb_2 : am_chb 2 = true := by decide +kernel
theorem cc_2 : am_chc 2 = true := by decide +kernel
theorem cb_3 : am_chb 3 = true := by decide +kernel
theorem cc_3 : am_chc 3 = true := by decide +kernel
theorem cb_4 : am_chb 4 = true := by decide +kernel
theorem cc_4 : am_chc 4 = true := by decide +kernel
theorem cb_5 : am_chb 5 = true := by decide +kernel
theorem cc_5 : am_chc 5 = true := by decide +kernel
theorem cb_6 : am_chb 6 = true := by decide +kernel
theorem cc_6 : am_chc 6 = true := by decide +kernel
theorem cb_7 : am_chb 7 = true := by decide +kernel
theorem cc_7 : am_chc 7 = true := by decide +kernel
theorem cb_8 : am_chb 8 = true := by decide +kernel
theorem cc_8 : am_chc 8 = true := by decide +kernel
theorem cb_9 : am_chb 9 = true := by decide +kernel
theorem cc_9 : am_chc 9 = true := by decide +kernel
theorem cb_10 : am_chb 10 = true := by decide +kernel
theorem cc_10 : am_chc 10 = true := by decide +kernel
theorem cb_11 : am_chb 11 = true := by decide +kernel
theorem cc_11 : am_chc 11 = true := by decide +kernel
theorem cb_12 : am_chb 12 = true := by decide +kernel
theorem cc_12 : am_chc 12 = true := by decide +kernel
theorem cb_13 : am_chb 13 = true := by decide +kernel
theorem cc_13 : am_chc 13 = true := by decide +kernel
theorem cb_14 : am_chb 14 = true := by decide +kernel
theorem cc_14 : am_chc 14 = true := by decide +kernel
theorem cb_15 : am_chb 15 = true := by decide +kernel
theorem cc_15 : am_chc 15 = true := by decide +kernel
theorem cb_16 : am_chb 16 = true := by decide +kernel
theorem cc_16 : am_chc 16 = true := by decide +kernel
theorem cb_17 : am_chb 17 = true := by decide +kernel
theorem cc_17 : am_chc 17 = true := by decide +kernel
theorem cb_18 : am_chb 18 = true := by decide +kernel
theorem cc_18 : am_chc 18 = true := by decide +kernel
theorem cb_19 : am_chb 19 = true := by decide +kernel
theorem cc_19 : am_chc 19 = true := by decide +kernel
theorem cb_20 : am_chb 20 = true := by decide +kernel
theorem cc_20 : am_chc 20 = true := by decide +kernel
theorem cb_21 : am_chb 21 = true := by decide +kernel
theorem cc_21 : am_chc 21 = true := by decide +kernel
theorem cb_22 : am_chb 22 = true := by decide +kernel
theorem cc_22 : am_chc 22 = true := by decide +kernel
theorem cb_23 : am_chb 23 = true := by decide +kernel
theorem cc_23 : am_chc 23 = true := by decide +kernel
theorem cb_24 : am_chb 24 = true := by decide +kernel
theorem cc_24 : am_chc 24 = true := by decide +kernel
theorem cb_25 : am_chb 25 = true := by decide +kernel
theorem cc_25 : am_chc 25 = true := by decide +kernel
theorem cb_26 : am_chb 26 = true := by decide +kernel
theorem cc_26 : am_chc 26 = true := by decide +kernel
theorem cb_27 : am_chb 27 = true := by decide +kernel
theorem cc_27 : am_chc 27 = true := by decide +kernel
theorem cb_28 : am_chb 28 = true := by decide +kernel
theorem cc_28 : am_chc 28 = true := by decide +kernel
theorem cb_29 : am_chb 29 = true := by decide +kernel
theorem cc_29 : am_chc 29 = true := by decide +kernel
theorem cb_30 : am_chb 30 = true := by decide +kernel
theorem cc_30 : am_chc 30 = true := by decide +kernel
theorem cb_31 : am_chb 31 = true := by decide +kernel
theorem cc_31 : am_chc 31 = true := by decide +kernel
theorem cb_32 : am_chb 32 = true := by decide +kernel
theorem cc_32 : am_chc 32 = true := by decide +kernel
theorem cb_33 : am_chb 33 = true := by decide +kernel
theorem cc_33 : am_chc 33 = true := by decide +kernel
theorem cb_34 : am_chb 34 = true := by decide +kernel
theorem cc_34 : am_chc 34 = true := by decide +kernel
theorem cb_35 : am_chb 35 = true := by decide +kernel
theorem cc_35 : am_chc 35 = true := by decide +kernel
theorem cb_36 : am_chb 36 = true := by decide +kernel
theorem cc_36 : am_chc 36 = true := by decide +kernel
theorem cb_37 : am_chb 37 = true := by decide +kernel
theorem cc_37 : am_chc 37 = true := by decide +kernel
theorem cb_38 : am_chb 38 = true := by decide +kernel
theorem cc_38 : am_chc 38 = true := by decide +kernel
theorem cb_39 : am_chb 39 = true := by decide +kernel
theorem cc_39 : am_chc 39 = true := by decide +kernel
theorem cb_40 : am_chb 40 = true := by decide +kernel
theorem cc_40 : am_chc 40 = true := by decide +kernel
theorem cb_41 : am_chb 41 = true := by decide +kernel
theorem cc_41 : am_chc 41 = true := by decide +kernel
theorem cb_42 : am_chb 42 = true := by decide +kernel
theorem cc_42 : am_chc 42 = true := by decide +kernel
theorem cb_43 : am_chb 43 = true := by decide +kernel
theorem cc_43 : am_chc 43 = true := by decide +kernel
theorem cb_44 : am_chb 44 = true := by decide +kernel
theorem cc_44 : am_chc 44 = true := by decide +kernel
theorem cb_45 : am_chb 45 = true := by decide +kernel
theorem cc_45 : am_chc 45 = true := by decide +kernel
theorem cb_46 : am_chb 46 = true := by decide +kernel
theorem cc_46 : am_chc 46 = true := by decide +kernel
theorem cb_47 : am_chb 47 = true := by decide +kernel
theorem cc_47 : am_chc 47 = true := by decide +kernel
theorem cb_48 : am_chb 48 = true := by decide +kernel
theorem cc_48 : am_chc 48 = true := by decide +kernel
theorem cb_49 : am_chb 49 = true := by decide +kernel
theorem cc_49 : am_chc 49 = true := by decide +kernel
theorem cb_50 : am_chb 50 = true := by decide +kernel
theorem cc_50 : am_chc 50 = true := by decide +kernel
theorem cb_51 : am_chb 51 = true := by decide +kernel
theorem cc_51 : am_chc 51 = true := by decide +kernel
theorem cb_52 : am_chb 52 = true := by decide +kernel
theorem cc_52 : am_chc 52 = true := by decide +kernel
theorem cb_53 : am_chb 53 = true := by decide +kernel
theorem cc_53 : am_chc 53 = true := by decide +kernel
theorem cb_54 : am_chb 54 = true := by decide +kernel
theorem cc_54 : am_chc 54 = true := by decide +kernel
theorem cb_55 : am_chb 55 = true := by decide +kernel
theorem cc_55 : am_chc 55 = true := by decide +kernel
theorem cb_56 : am_chb 56 = true := by decide +kernel
theorem cc_56 : am_chc 56 = true := by decide +kernel
theorem cb_57 : am_chb 57 = true := by decide +kernel
theorem cc_57 : am_chc 57 = true := by decide +kernel
theorem cb_58 : am_chb 58 = true := by decide +kernel
theorem cc_58 : am_chc 58 = true := by decide +kernel
theorem cb_59 : am_chb 59 = true := by decide +kernel
theorem cc_59 : am_chc 59 = true := by decide +kernel
theorem cb_60 : am_chb 60 = true := by decide +kernel
theorem cc_60 : am_chc 60 = true := by decide +kernel
theorem cb_61 : am_chb 61 = true := by decide +kernel
theorem cc_61 : am_chc 61 = true := by decide +kernel
theorem cb_62 : am_chb 62 = true := by decide +kernel
theorem cc_62 : am_chc 62 = true := by decide +kernel
theorem cb_63 : am_chb 63 = true := by decide +kernel
theorem cc_63 : am_chc 63 = true := by decide +kernel
theorem cb_64 : am_chb 64 = true := by decide +kernel
theorem cc_64 : am_chc 64 = true := by decide +kernel
theorem cb_65 : am_chb 65 = true := by decide +kernel
theorem cc_65 : am_chc 65 = true := by decide +kernel
theorem cb_66 : am_chb 66 = true := by decide +kernel
theorem cc_66 : am_chc 66 = true := by decide +kernel
theorem cb_67 : am_chb 67 = true := by decide +kernel
theorem cc_67 : am_chc 67 = true := by decide +kernel
theorem cb_68 : am_chb 68 = true := by decide +kernel
theorem cc_68 : am_chc 68 = true := by decide +kernel
theorem cb_69 : am_chb 69 = true := by decide +kernel
theorem cc_69 : am_chc 69 = true := by decide +kernel
theorem cb_70 : am_chb 70 = true := by decide +kernel
theorem cc_70 : am_chc 70 = true := by decide +kernel
theorem cb_71 : am_chb 71 = true := by decide +kernel
theorem cc_71 : am_chc 71 = true := by decide +kernel
theorem cb_72 : am_chb 72 = true := by decide +kernel
theorem cc_72 : am_chc 72 = true := by decide +kernel
theorem cb_73 : am_chb 73 = true := by decide +kernel
theorem cc_73 : am_chc 73 = true := by decide +kernel
theorem cb_74 : am_chb 74 = true := by decide +kernel
theorem cc_74 : am_chc 74 = true := by decide +kernel
theorem cb_75 : am_chb 75 = true := by decide +kernel
theorem cc_75 : am_chc 75 = true := by decide +kernel
theorem cb_76 : am_chb 76 = true := by decide +kernel
theorem cc_76 : am_chc 76 = true := by decide +kernel
theorem cb_77 : am_chb 77 = true := by decide +kernel
theorem cc_77 : am_chc 77 = true := by decide +kernel
theorem cb_78 : am_chb 78 = true := by decide +kernel
theorem cc_78 : am_chc 78 = true := by decide +kernel
theorem cb_79 : am_chb 79 = true := by decide +kernel
theorem cc_79 : am_chc 79 = true := by decide +kernel
theorem cb_80 : am_chb 80 = true := by decide +kernel
theorem cc_80 : am_chc 80 = true := by decide +kernel
theorem cb_81 : am_chb 81 = true := by decide +kernel
theorem cc_81 : am_chc 81 = true := by decide +kernel
theorem cb_82 : am_chb 82 = true := by decide +kernel
theorem cc_82 : am_chc 82 = true := by decide +kernel
theorem cb_83 : am_chb 83 = true := by decide +kernel
theorem cc_83 : am_chc 83 = true := by decide +kernel
theorem cb_84 : am_chb 84 = true := by decide +kernel
theorem cc_84 : am_chc 84 = true := by decide +kernel
theorem cb_85 : am_chb 85 = true := by decide +kernel
theorem cc_85 : am_chc 85 = true := by decide +kernel
theorem cb_86 : am_chb 86 = true := by decide +kernel
theorem cc_86 : am_chc 86 = true := by decide +kernel
theorem cb_87 : am_chb 87 = true := by decide +kernel
theorem cc_87 : am_chc 87 = true := by decide +kernel
theorem cb_88 : am_chb 88 = true := by decide +kernel
theorem cc_88 : am_chc 88 = true := by decide +kernel
theorem cb_89 : am_chb 89 = true := by decide +kernel
theorem cc_89 : am_chc 89 = true := by decide +kernel
theorem cb_90 : am_chb 90 = true := by decide +kernel
theorem cc_90 : am_chc 90 = true := by decide +kernel
theorem cb_91 : am_chb 91 = true := by decide +kernel
theorem cc_91 : am_chc 91 = true := by decide +kernel
theorem cb_92 : am_chb 92 = true := by decide +kernel
theorem cc_92 : am_chc 92 = true := by decide +kernel
theorem cb_93 : am_chb 93 = true := by decide +kernel
theorem cc_93 : am_chc 93 = true := by decide +kernel
theorem cb_94 : am_chb 94 = true := by decide +kernel
theorem cc_94 : am_chc 94 = true := by decide +kernel
theorem cb_95 : am_chb 95 = true := by decide +kernel
theorem cc_95 : am_chc 95 = true := by decide +kernel
theorem cb_96 : am_chb 96 = true := by decide +kernel
theorem cc_96 : am_chc 96 = true := by decide +kernel
theorem cb_97 : am_chb 97 = true := by decide +kernel
theorem cc_97 : am_chc 97 = true := by decide +kernel
theorem cb_98 : am_chb 98 = true := by decide +kernel
theorem cc_98 : am_chc 98 = true := by decide +kernel
theorem cb_99 : am_chb 99 = true := by decide +kernel
theorem cc_99 : am_chc 99 = true := by decide +kernel
theorem cb_100 : am_chb 100 = true := by decide +kernel
theorem cc_100 : am_chc 100 = true := by decide +kernel
theorem cb_101 : am_chb 101 = true := by decide +kernel
theorem cc_101 : am_chc 101 = true := by decide +kernel
theorem cb_102 : am_chb 102 = true := by decide +kernel
theorem cc_102 : am_chc 102 = true := by decide +kernel
theorem cb_103 : am_chb 103 = true := by decide +kernel
theorem cc_103 : am_chc 103 = true := by decide +kernel
theorem cb_104 : am_chb 104 = true := by decide +kernel
theorem cc_104 : am_chc 104 = true := by decide +kernel
theorem cb_105 : am_chb 105 = true := by decide +kernel
theorem cc_105 : am_chc 105 = true := by decide +kernel
theorem cb_106 : am_chb 106 = true := by decide +kernel
theorem cc_106 : am_chc 106 = true := by decide +kernel
theorem cb_107 : am_chb 107 = true := by decide +kernel
theorem cc_107 : am_chc 107 = true := by decide +kernel
theorem cb_108 : am_chb 108 = true := by decide +kernel
theorem cc_108 : am_chc 108 = true := by decide +kernel
theorem cb_109 : am_chb 109 = true := by decide +kernel
theorem cc_109 : am_chc 109 = true := by decide +kernel
theorem cb_110 : am_chb 110 = true := by decide +kernel
theorem cc_110 : am_chc 110 = true := by decide +kernel
theorem cb_111 : am_chb 111 = true := by decide +kernel
theorem cc_111 : am_chc 111 = true := by decide +kernel
theorem cb_112 : am_chb 112 = true := by decide +kernel
theorem cc_112 : am_chc 112 = true := by decide +kernel
theorem cb_113 : am_chb 113 = true := by decide +kernel
theorem cc_113 : am_chc 113 = true := by decide +kernel
theorem cb_114 : am_chb 114 = true := by decide +kernel
theorem cc_114 : am_chc 114 = true := by decide +kernel
theorem cb_115 : am_chb 115 = true := by decide +kernel
theorem cc_115 : am_chc 115 = true := by decide +kernel
theorem cb_116 : am_chb 116 = true := by decide +kernel
theorem cc_116 : am_chc 116 = true := by decide +kernel
theorem cb_117 : am_chb 117 = true := by decide +kernel
theorem cc_117 : am_chc 117 = true := by decide +kernel
theorem cb_118 : am_chb 118 = true := by decide +kernel
theorem cc_118 : am_chc 118 = true := by decide +kernel
theorem cb_119 : am_chb 119 = true := by decide +kernel
theorem cc_119 : am_chc 119 = true := by decide +kernel
theorem cb_120 : am_chb 120 = true := by decide +kernel
theorem cc_120 : am_chc 120 = true := by decide +kernel
theorem cb_121 : am_chb 121 = true := by decide +kernel
theorem cc_121 : am_chc 121 = true := by decide +kernel
theorem cb_122 : am_chb 122 = true := by decide +kernel
theorem cc_122 : am_chc 122 = true := by decide +kernel
theorem cb_123 : am_chb 123 = true := by decide +kernel
theorem cc_123 : am_chc 123 = true := by decide +kernel
theorem cb_124 : am_chb 124 = true := by decide +kernel
theorem cc_124 : am_chc 124 = true := by decide +kernel
theorem cb_125 : am_chb 125 = true := by decide +kernel
theorem cc_125 : am_chc 125 = true := by decide +kernel
theorem cb_126 : am_chb 126 = true := by decide +kernel
theorem cc_126 : am_chc 126 = true := by decide +kernel
theorem cb_127 : am_chb 127 = true := by decide +kernel
theorem cc_127 : am_chc 127 = true := by decide +kernel
theorem cb_128 : am_chb 128 = true := by decide +kernel
theorem cc_128 : am_chc 128 = true := by decide +kernel
theorem cb_129 : am_chb 129 = true := by decide +kernel
theorem cc_129 : am_chc 129 = true := by decide +kernel
theorem cb_130 : am_chb 130 = true := by decide +kernel
theorem cc_130 : am_chc 130 = true := by decide +kernel
theorem cb_131 : am_chb 131 = true := by decide +kernel
theorem cc_131 : am_chc 131 = true := by decide +kernel
theorem cb_132 : am_chb 132 = true := by decide +kernel
theorem cc_132 : am_chc 132 = true := by decide +kernel
theorem cb_133 : am_chb 133 = true := by decide +kernel
theorem cc_133 : am_chc 133 = true := by decide +kernel
theorem cb_134 : am_chb 134 = true := by decide +kernel
theorem cc_134 : am_chc 134 = true := by decide +kernel
theorem cb_135 : am_chb 135 = true := by decide +kernel
theorem cc_135 : am_chc 135 = true := by decide +kernel
theorem cb_136 : am_chb 136 = true := by decide +kernel
theorem cc_136 : am_chc 136 = true := by decide +kernel
theorem cb_137 : am_chb 137 = true := by decide +kernel
theorem cc_137 : am_chc 137 = true := by decide +kernel
theorem cb_138 : am_chb 138 = true := by decide +kernel
theorem cc_138 : am_chc 138 = true := by decide +kernel
theorem cb_139 : am_chb 139 = true := by decide +kernel
theorem cc_139 : am_chc 139 = true := by decide +kernel
theorem cb_140 : am_chb 140 = true := by decide +kernel
theorem cc_140 : am_chc 140 = true := by decide +kernel
theorem cb_141 : am_chb 141 = true := by decide +kernel
theorem cc_141 : am_chc 141 = true := by decide +kernel
theorem cb_142 : am_chb 142 = true := by decide +kernel
theorem cc_142 : am_chc 142 = true := by decide +kernel
theorem cb_143 : am_chb 143 = true := by decide +kernel
theorem cc_143 : am_chc 143 = true := by decide +kernel
theorem cb_144 : am_chb 144 = true := by decide +kernel
theorem cc_144 : am_chc 144 = true := by decide +kernel
theorem cb_145 : am_chb 145 = true := by decide +kernel
theorem cc_145 : am_chc 145 = true := by decide +kernel
theorem cb_146 : am_chb 146 = true := by decide +kernel
theorem cc_146 : am_chc 146 = true := by decide +kernel
theorem cb_147 : am_chb 147 = true := by decide +kernel
theorem cc_147 : am_chc 147 = true := by decide +kernel
theorem cb_148 : am_chb 148 = true := by decide +kernel
theorem cc_148 : am_chc 148 = true := by decide +kernel
theorem cb_149 : am_chb 149 = true := by decide +kernel
theorem cc_149 : am_chc 149 = true := by decide +kernel
theorem cb_150 : am_chb 150 = true := by decide +kernel
theorem cc_150 : am_chc 150 = true := by decide +kernel
theorem cb_151 : am_chb 151 = true := by decide +kernel
theorem cc_151 : am_chc 151 = true := by decide +kernel
theorem cb_152 : am_chb 152 = true := by decide +kernel
theorem cc_152 : am_chc 152 = true := by decide +kernel
theorem cb_153 : am_chb 153 = true := by decide +kernel
theorem cc_153 : am_chc 153 = true := by decide +kernel
theorem cb_154 : am_chb 154 = true := by decide +kernel
theorem cc_154 : am_chc 154 = true := by decide +kernel
theorem cb_155 : am_chb 155 = true := by decide +kernel
theorem cc_155 : am_chc 155 = true := by decide +kernel
theorem cb_156 : am_chb 156 = true := by decide +kernel
theorem cc_156 : am_chc 156 = true := by decide +kernel
theorem cb_157 : am_chb 157 = true := by decide +kernel
theorem cc_157 : am_chc 157 = true := by decide +kernel
theorem cb_158 : am_chb 158 = true := by decide +kernel
theorem cc_158 : am_chc 158 = true := by decide +kernel
theorem cb_159 : am_chb 159 = true := by decide +kernel
theorem cc_159 : am_chc 159 = true := by decide +kernel
theorem cb_160 : am_chb 160 = true := by decide +kernel
theorem cc_160 : am_chc 160 = true := by decide +kernel
theorem cb_161 : am_chb 161 = true := by decide +kernel
theorem cc_161 : am_chc 161 = true := by decide +kernel
theorem cb_162 : am_chb 162 = true := by decide +kernel
theorem cc_162 : am_chc 162 = true := by decide +kernel
theorem cb_163 : am_chb 163 = true := by decide +kernel
theorem cc_163 : am_chc 163 = true := by decide +kernel
theorem cb_164 : am_chb 164 = true := by decide +kernel
theorem cc_164 : am_chc 164 = true := by decide +kernel
theorem cb_165 : am_chb 165 = true := by decide +kernel
theorem cc_165 : am_chc 165 = true := by decide +kernel
theorem cb_166 : am_chb 166 = true := by decide +kernel
theorem cc_166 : am_chc 166 = true := by decide +kernel
theorem cb_167 : am_chb 167 = true := by decide +kernel
theorem cc_167 : am_chc 167 = true := by decide +kernel
theorem cb_168 : am_chb 168 = true := by decide +kernel
theorem cc_168 : am_chc 168 = true := by decide +kernel
theorem cb_169 : am_chb 169 = true := by decide +kernel
theorem cc_169 : am_chc 169 = true := by decide +kernel
theorem cb_170 : am_chb 170 = true := by decide +kernel
theorem cc_170 : am_chc 170 = true := by decide +kernel
theorem cb_171 : am_chb 171 = true := by decide +kernel
theorem cc_171 : am_chc 171 = true := by decide +kernel
theorem cb_172 : am_chb 172 = true := by decide +kernel
theorem cc_172 : am_chc 172 = true := by decide +kernel
theorem cb_173 : am_chb 173 = true := by decide +kernel
theorem cc_173 : am_chc 173 = true := by decide +kernel
theorem cb_174 : am_chb 174 = true := by decide +kernel
theorem cc_174 : am_chc 174 = true := by decide +kernel
theorem cb_175 : am_chb 175 = true := by decide +kernel
theorem cc_175 : am_chc 175 = true := by decide +kernel
theorem cb_176 : am_chb 176 = true := by decide +kernel
theorem cc_176 : am_chc 176 = true := by decide +kernel
theorem cb_177 : am_chb 177 = true := by decide +kernel
theorem cc_177 : am_chc 177 = true := by decide +kernel
theorem cb_178 : am_chb 178 = true := by decide +kernel
theorem cc_178 : am_chc 178 = true := by decide +kernel
theorem cb_179 : am_chb 179 = true := by decide +kernel
theorem cc_179 : am_chc 179 = true := by decide +kernel
theorem cb_180 : am_chb 180 = true := by decide +kernel
theorem cc_180 : am_chc 180 = true := by decide +kernel
theorem cb_181 : am_chb 181 = true := by decide +kernel
theorem cc_181 : am_chc 181 = true := by decide +kernel
theorem cb_182 : am_chb 182 = true := by decide +kernel
theorem cc_182 : am_chc 182 = true := by decide +kernel
theorem cb_183 : am_chb 183 = true := by decide +kernel
theorem cc_183 : am_chc 183 = true := by decide +kernel
theorem cb_184 : am_chb 184 = true := by decide +kernel
theorem cc_184 : am_chc 184 = true := by decide +kernel
theorem cb_185 : am_chb 185 = true := by decide +kernel
theorem cc_185 : am_chc 185 = true := by decide +kernel
theorem cb_186 : am_chb 186 = true := by decide +kernel
theorem cc_186 : am_chc 186 = true := by decide +kernel
theorem cb_187 : am_chb 187 = true := by decide +kernel
theorem cc_187 : am_chc 187 = true := by decide +kernel
theorem cb_188 : am_chb 188 = true := by decide +kernel
theorem cc_188 : am_chc 188 = true := by decide +kernel
theorem cb_189 : am_chb 189 = true := by decide +kernel
theorem cc_189 : am_chc 189 = true := by decide +kernel
theorem cb_190 : am_chb 190 = true := by decide +kernel
theorem cc_190 : am_chc 190 = true := by decide +kernel
theorem cb_191 : am_chb 191 = true := by decide +kernel
theorem cc_191 : am_chc 191 = true := by decide +kernel
theorem cb_192 : am_chb 192 = true := by decide +kernel
theorem cc_192 : am_chc 192 = true := by decide +kernel
theorem cb_193 : am_chb 193 = true := by decide +kernel
theorem cc_193 : am_chc 193 = true := by decide +kernel
theorem cb_194 : am_chb 194 = true := by decide +kernel
theorem cc_194 : am_chc 194 = true := by decide +kernel
theorem cb_195 : am_chb 195 = true := by decide +kernel
theorem cc_195 : am_chc 195 = true := by decide +kernel
theorem cb_196 : am_chb 196 = true := by decide +kernel
theorem cc_196 : am_chc 196 = true := by decide +kernel
theorem cb_197 : am_chb 197 = true := by decide +kernel
theorem cc_197 : am_chc 197 = true := by decide +kernel
theorem cb_198 : am_chb 198 = true := by decide +kernel
theorem cc_198 : am_chc 198 = true := by decide +kernel
theorem cb_199 : am_chb 199 = true := by decide +kernel
theorem cc_199 : am_chc 199 = true := by decide +kernel
theorem cb_200 : am_chb 200 = true := by decide +kernel
theorem cc_200 : am_chc 200 = true := by decide +kernel
theorem cb_201 : am_chb 201 = true := by decide +kernel
theorem cc_201 : am_chc 201 = true := by decide +kernel
theorem cb_202 : am_chb 202 = true := by decide +kernel
theorem cc_202 : am_chc 202 = true := by decide +kernel
theorem cb_203 : am_chb 203 = true := by decide +kernel
theorem cc_203 : am_chc 203 = true := by decide +kernel
theorem cb_204 : am_chb 204 = true := by decide +kernel
theorem cc_204 : am_chc 204 = true := by decide +kernel
theorem cb_205 : am_chb 205 = true := by decide +kernel
theorem cc_205 : am_chc 205 = true := by decide +kernel
theorem cb_206 : am_chb 206 = true := by decide +kernel
theorem cc_206 : am_chc 206 = true := by decide +kernel
theorem cb_207 : am_chb 207 = true := by decide +kernel
theorem cc_207 : am_chc 207 = true := by decide +kernel
theorem cb_208 : am_chb 208 = true := by decide +kernel
theorem cc_208 : am_chc 208 = true := by decide +kernel
theorem cb_209 : am_chb 209 = true := by decide +kernel
theorem cc_209 : am_chc 209 = true := by decide +kernel
theorem cb_210 : am_chb 210 = true := by decide +kernel
theorem cc_210 : am_chc 210 = true := by decide +kernel
theorem cb_211 : am_chb 211 = true := by decide +kernel
theorem cc_211 : am_chc 211 = true := by decide +kernel
theorem cb_212 : am_chb 212 = true := by decide +kernel
theorem cc_212 : am_chc 212 = true := by decide +kernel
theorem cb_213 : am_chb 213 = true := by decide +kernel
theorem cc_213 : am_chc 213 = true := by decide +kernel
theorem cb_214 : am_chb 214 = true := by decide +kernel
theorem cc_214 : am_chc 214 = true := by decide +kernel
theorem cb_215 : am_chb 215 = true := by decide +kernel
theorem cc_215 : am_chc 215 = true := by decide +kernel
theorem cb_216 : am_chb 216 = true := by decide +kernel
theorem cc_216 : am_chc 216 = true := by decide +kernel
theorem cb_217 : am_chb 217 = true := by decide +kernel
theorem cc_217 : am_chc 217 = true := by decide +kernel
theorem cb_218 : am_chb 218 = true := by decide +kernel
theorem cc_218 : am_chc 218 = true := by decide +kernel
theorem cb_219 : am_chb 219 = true := by decide +kernel
theorem cc_219 : am_chc 219 = true := by decide +kernel
theorem cb_220 : am_chb 220 = true := by decide +kernel
theorem cc_220 : am_chc 220 = true := by decide +kernel
theorem cb_221 : am_chb 221 = true := by decide +kernel
theorem cc_221 : am_chc 221 = true := by decide +kernel
theorem cb_222 : am_chb 222 = true := by decide +kernel
theorem cc_222 : am_chc 222 = true := by decide +kernel
theorem cb_223 : am_chb 223 = true := by decide +kernel
theorem cc_223 : am_chc 223 = true := by decide +kernel
theorem cb_224 : am_chb 224 = true := by decide +kernel
theorem cc_224 : am_chc 224 = true := by decide +kernel
theorem cb_225 : am_chb 225 = true := by decide +kernel
theorem cc_225 : am_chc 225 = true := by decide +kernel
theorem cb_226 : am_chb 226 = true := by decide +kernel
theorem cc_226 : am_chc 226 = true := by decide +kernel
theorem cb_227 : am_chb 227 = true := by decide +kernel
theorem cc_227 : am_chc 227 = true := by decide +kernel
theorem cb_228 : am_chb 228 = true := by decide +kernel
theorem cc_228 : am_chc 228 = true := by decide +kernel
theorem cb_229 : am_chb 229 = true := by decide +kernel
theorem cc_229 : am_chc 229 = true := by decide +kernel
theorem cb_230 : am_chb 230 = true := by decide +kernel
theorem cc_230 : am_chc 230 = true := by decide +kernel
theorem cb_231 : am_chb 231 = true := by decide +kernel
theorem cc_231 : am_chc 231 = true := by decide +kernel
theorem cb_232 : am_chb 232 = true := by decide +kernel
theorem am_chb_all : ∀ k, k < 233 → am_chb k = true := by
  intro k hk
  match k, hk with
  | 0, _ => exact cb_0
  | 1, _ => exact cb_1
  | 2, _ => exact cb_2
  | 3, _ => exact cb_3
  | 4, _ => exact cb_4
  | 5, _ => exact cb_5
  | 6, _ => exact cb_6
  | 7, _ => exact cb_7
  | 8, _ => exact cb_8
  | 9, _ => exact cb_9
  | 10, _ => exact cb_10
  | 11, _ => exact cb_11
  | 12, _ => exact cb_12
  | 13, _ => exact cb_13
  | 14, _ => exact cb_14
  | 15, _ => exact cb_15
  | 16, _ => exact cb_16
  | 17, _ => exact cb_17
  | 18, _ => exact cb_18
  | 19, _ => exact cb_19
  | 20, _ => exact cb_20
  | 21, _ => exact cb_21
  | 22, _ => exact cb_22
  | 23, _ => exact cb_23
  | 24, _ => exact cb_24
  | 25, _ => exact cb_25
  | 26, _ => exact cb_26
  | 27, _ => exact cb_27
  | 28, _ => exact cb_28
  | 29, _ => exact cb_29
  | 30, _ => exact cb_30
  | 31, _ => exact cb_31
  | 32, _ => exact cb_32
  | 33, _ => exact cb_33
  | 34, _ => exact cb_34
  | 35, _ => exact cb_35
  | 36, _ => exact cb_36
  | 37, _ => exact cb_37
  | 38, _ => exact cb_38
  | 39, _ => exact cb_39
  | 40, _ => exact cb_40
  | 41, _ => exact cb_41
  | 42, _ => exact cb_42
  | 43, _ => exact cb_43
  | 44, _ => exact cb_44
  | 45, _ => exact cb_45
  | 46, _ => exact cb_46
  | 47, _ => exact cb_47
  | 48, _ => exact cb_48
  | 49, _ => exact cb_49
  | 50, _ => exact cb_50
  | 51, _ => exact cb_51
  | 52, _ => exact cb_52
  | 53, _ => exact cb_53
  | 54, _ => exact cb_54
  | 55, _ => exact cb_55
  | 56, _ => exact cb_56
  | 57, _ => exact cb_57
  | 58, _ => exact cb_58
  | 59, _ => exact cb_59
  | 60, _ => exact cb_60
  | 61, _ => exact cb_61
  | 62, _ => exact cb_62
  | 63, _ => exact cb_63
  | 64, _ => exact cb_64
  | 65, _ => exact cb_65
  | 66, _ => exact cb_66
  | 67, _ => exact cb_67
  | 68, _ => exact cb_68
  | 69, _ => exact cb_69
  | 70, _ => exact cb_70
  | 71, _ => exact cb_71
  | 72, _ => exact cb_72
  | 73, _ => exact cb_73
  | 74, _ => exact cb_74
  | 75, _ => exact cb_75
  | 76, _ => exact cb_76
  | 77, _ => exact cb_77
  | 78, _ => exact cb_78
  | 79, _ => exact cb_79
  | 80, _ => exact cb_80
  | 81, _ => exact cb_81
  | 82, _ => exact cb_82
  | 83, _ => exact cb_83
  | 84, _ => exact cb_84
  | 85, _ => exact cb_85
  | 86, _ => exact cb_86
  | 87, _ => exact cb_87
  | 88, _ => exact cb_88
  | 89, _ => exact cb_89
  | 90, _ => exact cb_90
  | 91, _ => exact cb_91
  | 92, _ => exact cb_92
  | 93, _ => exact cb_93
  | 94, _ => exact cb_94
  | 95, _ => exact cb_95
  | 96, _ => exact cb_96
  | 97, _ => exact cb_97
  | 98, _ => exact cb_98
  | 99, _ => exact cb_99
  | 100, _ => exact cb_100
  | 101, _ => exact cb_101
  | 102, _ => exact cb_102
  | 103, _ => exact cb_103
  | 104, _ => exact cb_104
  | 105, _ => exact cb_105
  | 106, _ => exact cb_106
  | 107, _ => exact cb_107
  | 108, _ => exact cb_108
  | 109, _ => exact cb_109
  | 110, _ => exact cb_110
  | 111, _ => exact cb_111
  | 112, _ => exact cb_112
  | 113, _ => exact cb_113
  | 114, _ => exact cb_114
  | 115, _ => exact cb_115
  | 116, _ => exact cb_116
  | 117, _ => exact cb_117
  | 118, _ => exact cb_118
  | 119, _ => exact cb_119
  | 120, _ => exact cb_120
  | 121, _ => exact cb_121
  | 122, _ => exact cb_122
  | 123, _ => exact cb_123
  | 124, _ => exact cb_124
  | 125, _ => exact cb_125
  | 126, _ => exact cb_126
  | 127, _ => exact cb_127
  | 128, _ => exact cb_128
  | 129, _ => exact cb_129
  | 130, _ => exact cb_130
  | 131, _ => exact cb_131
  | 132, _ => exact cb_132
  | 133, _ => exact cb_133
  | 134, _ => exact cb_134
  | 135, _ => exact cb_135
  | 136, _ => exact cb_136
  | 137, _ => exact cb_137
  | 138, _ => exact cb_138
  | 139, _ => exact cb_139
  | 140, _ => exact cb_140
  | 141, _ => exact cb_141
  | 142, _ => exact cb_142
  | 143, _ => exact cb_143
  | 144, _ => exact cb_144
  | 145, _ => exact cb_145
  | 146, _ => exact cb_146
  | 147, _ => exact cb_147
  | 148, _ => exact cb_148
  | 149, _ => exact cb_149
  | 150, _ => exact cb_150
  | 151, _ => exact cb_151
  | 152, _ => exact cb_152
  | 153, _ => exact cb_153
  | 154, _ => exact cb_154
  | 155, _ => exact cb_155
  | 156, _ => exact cb_156
  | 157, _ => exact cb_157
  | 158, _ => exact cb_158
  | 159, _ => exact cb_159
  | 160, _ => exact cb_160
  | 161, _ => exact cb_161
  | 162, _ => exact cb_162
  | 163, _ => exact cb_163
  | 164, _ => exact cb_164
  | 165, _ => exact cb_165
  | 166, _ => exact cb_166
  | 167, _ => exact cb_167
  | 168, _ => exact cb_168
  | 169, _ => exact cb_169
  | 170, _ => exact cb_170
  | 171, _ => exact cb_171
  | 172, _ => exact cb_172
  | 173, _ => exact cb_173
  | 174, _ => exact cb_174
  | 175, _ => exact cb_175
  | 176, _ => exact cb_176
  | 177, _ => exact cb_177
  | 178, _ => exact cb_178
  | 179, _ => exact cb_179
  | 180, _ => exact cb_180
  | 181, _ => exact cb_181
  | 182, _ => exact cb_182
  | 183, _ => exact cb_183
  | 184, _ => exact cb_184
  | 185, _ => exact cb_185
  | 186, _ => exact cb_186
  | 187, _ => exact cb_187
  | 188, _ => exact cb_188
  | 189, _ => exact cb_189
  | 190, _ => exact cb_190
  | 191, _ => exact cb_191
  | 192, _ => exact cb_192
  | 193, _ => exact cb_193
  | 194, _ => exact cb_194
  | 195, _ => exact cb_195
  | 196, _ => exact cb_196
  | 197, _ => exact cb_197
  | 198, _ => exact cb_198
  | 199, _ => exact cb_199
  | 200, _ => exact cb_200
  | 201, _ => exact cb_201
  | 202, _ => exact cb_202
  | 203, _ => exact cb_203
  | 204, _ => exact cb_204
  | 205, _ => exact cb_205
  | 206, _ => exact cb_206
  | 207, _ => exact cb_207
  | 208, _ => exact cb_208
  | 209, _ => exact cb_209
  | 210, _ => exact cb_210
  | 211, _ => exact cb_211
  | 212, _ => exact cb_212
  | 213, _ => exact cb_213
  | 214, _ => exact cb_214
  | 215, _ => exact cb_215
  | 216, _ => exact cb_216
  | 217, _ => exact cb_217
  | 218, _ => exact cb_218
  | 219, _ => exact cb_219
  | 220, _ => exact cb_220
  | 221, _ => exact cb_221
  | 222, _ => exact cb_222
  | 223, _ => exact cb_223
  | 224, _ => exact cb_224
  | 225, _ => exact cb_225
  | 226, _ => exact cb_226
  | 227, _ => exact cb_227
  | 228, _ => exact cb_228
  | 229, _ => exact cb_229
  | 230, _ => exact cb_230
  | 231, _ => exact cb_231
  | 232, _ => exact cb_232
  | n + 233, h => omega
theorem am_chc_all : ∀ k, k < 232 → am_chc k = true := by
  intro k hk
  match k, hk with
  | 0, _ => exact cc_0
  | 1, _ => exact cc_1
  | 2, _ => exact cc_2
  | 3, _ => exact cc_3
  | 4, _ => exact cc_4
  | 5, _ => exact cc_5
  | 6, _ => exact cc_6
  | 7, _ => exact cc_7
  | 8, _ => exact cc_8
  | 9, _ => exact cc_9
  | 10, _ => exact cc_10
  | 11, _ => exact cc_11
  | 12, _ => exact cc_12
  | 13, _ => exact cc_13
  | 14, _ => exact cc_14
  | 15, _ => exact cc_15
  | 16, _ => exact cc_16
  | 17, _ => exact cc_17
  | 18, _ => exact cc_18
  | 19, _ => exact cc_19
  | 20, _ => exact cc_20
  | 21, _ => exact cc_21
  | 22, _ => exact cc_22
  | 23, _ => exact cc_23
  | 24, _ => exact cc_24
  | 25, _ => exact cc_25
  | 26, _ => exact cc_26
  | 27, _ => exact cc_27
  | 28, _ => exact cc_28
  | 29, _ => exact cc_29
  | 30, _ => exact cc_30
  | 31, _ => exact cc_31
  | 32, _ => exact cc_32
  | 33, _ => exact cc_33
  | 34, _ => exact cc_34
  | 35, _ => exact cc_35
  | 36, _ => exact cc_36
  | 37, _ => exact cc_37
  | 38, _ => exact cc_38
  | 39, _ => exact cc_39
  | 40, _ => exact cc_40
  | 41, _ => exact cc_41
  | 42, _ => exact cc_42
  | 43, _ => exact cc_43
  | 44, _ => exact cc_44
  | 45, _ => exact cc_45
  | 46, _ => exact cc_46
  | 47, _ => exact cc_47
  | 48, _ => exact cc_48
  | 49, _ => exact cc_49
  | 50, _ => exact cc_50
  | 51, _ => exact cc_51
  | 52, _ => exact cc_52
  | 53, _ => exact cc_53
  | 54, _ => exact cc_54
  | 55, _ => exact cc_55
  | 56, _ => exact cc_56
  | 57, _ => exact cc_57
  | 58, _ => exact cc_58
  | 59, _ => exact cc_59
  | 60, _ => exact cc_60
  | 61, _ => exact cc_61
  | 62, _ => exact cc_62
  | 63, _ => exact cc_63
  | 64, _ => exact cc_64
  | 65, _ => exact cc_65
  | 66, _ => exact cc_66
  | 67, _ => exact cc_67
  | 68, _ => exact cc_68
  | 69, _ => exact cc_69
  | 70, _ => exact cc_70
  | 71, _ => exact cc_71
  | 72, _ => exact cc_72
  | 73, _ => exact cc_73
  | 74, _ => exact cc_74
  | 75, _ => exact cc_75
  | 76, _ => exact cc_76
  | 77, _ => exact cc_77
  | 78, _ => exact cc_78
  | 79, _ => exact cc_79
  | 80, _ => exact cc_80
  | 81, _ => exact cc_81
  | 82, _ => exact cc_82
  | 83, _ => exact cc_83
  | 84, _ => exact cc_84
  | 85, _ => exact cc_85
  | 86, _ => exact cc_86
  | 87, _ => exact cc_87
  | 88, _ => exact cc_88
  | 89, _ => exact cc_89
  | 90, _ => exact cc_90
  | 91, _ => exact cc_91
  | 92, _ => exact cc_92
  | 93, _ => exact cc_93
  | 94, _ => exact cc_94
  | 95, _ => exact cc_95
  | 96, _ => exact cc_96
  | 97, _ => exact cc_97
  | 98, _ => exact cc_98
  | 99, _ => exact cc_99
  | 100, _ => exact cc_100
  | 101, _ => exact cc_101
  | 102, _ => exact cc_102
  | 103, _ => exact cc_103
  | 104, _ => exact cc_104
  | 105, _ => exact cc_105
  | 106, _ => exact cc_106
  | 107, _ => exact cc_107
  | 108, _ => exact cc_108
  | 109, _ => exact cc_109
  | 110, _ => exact cc_110
  | 111, _ => exact cc_111
  | 112, _ => exact cc_112
  | 113, _ => exact cc_113
  | 114, _ => exact cc_114
  | 115, _ => exact cc_115
  | 116, _ => exact cc_116
  | 117, _ => exact cc_117
  | 118, _ => exact cc_118
  | 119, _ => exact cc_119
  | 120, _ => exact cc_120
  | 121, _ => exact cc_121
  | 122, _ => exact cc_122
  | 123, _ => exact cc_123
  | 124, _ => exact cc_124
  | 125, _ => exact cc_125
  | 126, _ => exact cc_126
  | 127, _ => exact cc_127
  | 128, _ => exact cc_128
  | 129, _ => exact cc_129
  | 130, _ => exact cc_130
  | 131, _ => exact cc_131
  | 132, _ => exact cc_132
  | 133, _ => exact cc_133
  | 134, _ => exact cc_134
  | 135, _ => exact cc_135
  | 136, _ => exact cc_136
  | 137, _ => exact cc_137
  | 138, _ => exact cc_138
  | 139, _ => exact cc_139
  | 140, _ => exact cc_140
  | 141, _ => exact cc_141
  | 142, _ => exact cc_142
  | 143, _ => exact cc_143
  | 144, _ => exact cc_144
  | 145, _ => exact cc_145
  | 146, _ => exact cc_146
  | 147, _ => exact cc_147
  | 148, _ => exact cc_148
  | 149, _ => exact cc_149
  | 150, _ => exact cc_150
  | 151, _ => exact cc_151
  | 152, _ => exact cc_152
  | 153, _ => exact cc_153
  | 154, _ => exact cc_154
  | 155, _ => exact cc_155
  | 156, _ => exact cc_156
  | 157, _ => exact cc_157
  | 158, _ => exact cc_158
  | 159, _ => exact cc_159
  | 160, _ => exact cc_160
  | 161, _ => exact cc_161
  | 162, _ => exact cc_162
  | 163, _ => exact cc_163
  | 164, _ => exact cc_164
  | 165, _ => exact cc_165
  | 166, _ => exact cc_166
  | 167, _ => exact cc_167
  | 168, _ => exact cc_168
  | 169, _ => exact cc_169
  | 170, _ => exact cc_170
  | 171, _ => exact cc_171
  | 172, _ => exact cc_172
  | 173, _ => exact cc_173
  | 174, _ => exact cc_174
  | 175, _ => exact cc_175
  | 176, _ => exact cc_176
  | 177, _ => exact cc_177
  | 178, _ => exact cc_178
  | 179, _ => exact cc_179
  | 180, _ => exact cc_180
  | 181, _ => exact cc_181
  | 182, _ => exact cc_182
  | 183, _ => exact cc_183
  | 184, _ => exact cc_184
  | 185, _ => exact cc_185
  | 186, _ => exact cc_186
  | 187, _ => exact cc_187
  | 188, _ => exact cc_188
  | 189, _ => exact cc_189
  | 190, _ => exact cc_190
  | 191, _ => exact cc_191
  | 192, _ => exact cc_192
  | 193, _ => exact cc_193
  | 194, _ => exact cc_194
  | 195, _ => exact cc_195
  | 196, _ => exact cc_196
  | 197, _ => exact cc_197
  | 198, _ => exact cc_198
  | 199, _ => exact cc_199
  | 200, _ => exact cc_200
  | 201, _ => exact cc_201
  | 202, _ => exact cc_202
  | 203, _ => exact cc_203
  | 204, _ => exact cc_204
  | 205, _ => exact cc_205
  | 206, _ => exact cc_206
  | 207, _ => exact cc_207
  | 208, _ => exact cc_208
  | 209, _ => exact cc_209
  | 210, _ => exact cc_210
  | 211, _ => exact cc_211
  | 212, _ => exact cc_212
  | 213, _ => exact cc_213
  | 214, _ => exact cc_214
  | 215, _ => exact cc_215
  | 216, _ => exact cc_216
  | 217, _ => exact cc_217
  | 218, _ => exact cc_218
  | 219, _ => exact cc_219
  | 220, _ => exact cc_220
  | 221, _ => exact cc_221
  | 222, _ => exact cc_222
  | 223, _ => exact cc_223
  | 224, _ => exact cc_224
  | 225, _ => exact cc_225
  | 226, _ => exact cc_226
  | 227, _ => exact cc_227
  | 228, _ => exact cc_228
  | 229, _ => exact cc_229
  | 230, _ => exact cc_230
  | 231, _ => exact cc_231
  | n + 232, h => omega
