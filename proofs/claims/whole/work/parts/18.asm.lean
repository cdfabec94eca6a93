/-! ===== all methods ===== -/
def zTl_0 : List (Nat → zO) := [zt_0, zt_1, zt_2, zt_3, zt_4, zt_5, zt_6, zt_7, zt_8, zt_9, zt_10, zt_11, zt_12, zt_13, zt_14, zt_15, zt_16, zt_17, zt_18, zt_19, zt_20, zt_21, zt_22, zt_23, zt_24, zt_25, zt_26, zt_27, zt_28, zt_29, zt_30, zt_31, zt_32, zt_33, zt_34, zt_35, zt_36, zt_37, zt_38, zt_39, zt_40, zt_41, zt_42, zt_43, zt_44, zt_45, zt_46, zt_47, zt_48, zt_49]
def zTl_1 : List (Nat → zO) := [zt_50, zt_51, zt_52, zt_53, zt_54, zt_55, zt_56, zt_57, zt_58, zt_59, zt_60, zt_61, zt_62, zt_63, zt_64, zt_65, zt_66, zt_67, zt_68, zt_69, zt_70, zt_71, zt_72, zt_73, zt_74, zt_75, zt_76, zt_77, zt_78, zt_79, zt_80, zt_81, zt_82, zt_83, zt_84, zt_85, zt_86, zt_87, zt_88, zt_89, zt_90, zt_91, zt_92, zt_93, zt_94, zt_95, zt_96, zt_97, zt_98, zt_99]
def zTl_2 : List (Nat → zO) := [zt_100, zt_101, zt_102, zt_103, zt_104, zt_105, zt_106, zt_107, zt_108, zt_109, zt_110, zt_111, zt_112, zt_113, zt_114, zt_115, zt_116, zt_117, zt_118, zt_119, zt_120, zt_121, zt_122, zt_123, zt_124, zt_125, zt_126, zt_127, zt_128, zt_129, zt_130, zt_131, zt_132, zt_133, zt_134, zt_135, zt_136, zt_137, zt_138, zt_139, zt_140, zt_141, zt_142, zt_143, zt_144, zt_145, zt_146, zt_147, zt_148, zt_149]
def zTl_3 : List (Nat → zO) := [zt_150, zt_151, zt_152, zt_153, zt_154, zt_155, zt_156, zt_157, zt_158, zt_159, zt_160, zt_161, zt_162, zt_163, zt_164, zt_165, zt_166, zt_167, zt_168, zt_169, zt_170, zt_171, zt_172, zt_173, zt_174, zt_175, zt_176, zt_177, zt_178, zt_179, zt_180, zt_181, zt_182, zt_183, zt_184, zt_185, zt_186, zt_187, zt_188, zt_189, zt_190, zt_191, zt_192, zt_193, zt_194, zt_195, zt_196, zt_197, zt_198, zt_199]
def zTl_4 : List (Nat → zO) := [zt_200, zt_201, zt_202, zt_203, zt_204, zt_205, zt_206, zt_207, zt_208, zt_209, zt_210, zt_211, zt_212, zt_213, zt_214, zt_215]
def zTl : List (Nat → zO) := zTl_0 ++ (zTl_1 ++ (zTl_2 ++ (zTl_3 ++ (zTl_4))))
def zT (k : Nat) : Nat → zO := zTl.getD k (fun _ => oNo)
theorem zT_0 : zT 0 = zt_0 := rfl
theorem zT_1 : zT 1 = zt_1 := rfl
theorem zT_2 : zT 2 = zt_2 := rfl
theorem zT_3 : zT 3 = zt_3 := rfl
theorem zT_4 : zT 4 = zt_4 := rfl
theorem zT_5 : zT 5 = zt_5 := rfl
theorem zT_6 : zT 6 = zt_6 := rfl
theorem zT_7 : zT 7 = zt_7 := rfl
theorem zT_8 : zT 8 = zt_8 := rfl
theorem zT_9 : zT 9 = zt_9 := rfl
theorem zT_10 : zT 10 = zt_10 := rfl
theorem zT_11 : zT 11 = zt_11 := rfl
theorem zT_12 : zT 12 = zt_12 := rfl
theorem zT_13 : zT 13 = zt_13 := rfl
theorem zT_14 : zT 14 = zt_14 := rfl
theorem zT_15 : zT 15 = zt_15 := rfl
theorem zT_16 : zT 16 = zt_16 := rfl
theorem zT_17 : zT 17 = zt_17 := rfl
theorem zT_18 : zT 18 = zt_18 := rfl
theorem zT_19 : zT 19 = zt_19 := rfl
theorem zT_20 : zT 20 = zt_20 := rfl
theorem zT_21 : zT 21 = zt_21 := rfl
theorem zT_22 : zT 22 = zt_22 := rfl
theorem zT_23 : zT 23 = zt_23 := rfl
theorem zT_24 : zT 24 = zt_24 := rfl
theorem zT_25 : zT 25 = zt_25 := rfl
theorem zT_26 : zT 26 = zt_26 := rfl
theorem zT_27 : zT 27 = zt_27 := rfl
theorem zT_28 : zT 28 = zt_28 := rfl
theorem zT_29 : zT 29 = zt_29 := rfl
theorem zT_30 : zT 30 = zt_30 := rfl
theorem zT_31 : zT 31 = zt_31 := rfl
theorem zT_32 : zT 32 = zt_32 := rfl
theorem zT_33 : zT 33 = zt_33 := rfl
theorem zT_34 : zT 34 = zt_34 := rfl
theorem zT_35 : zT 35 = zt_35 := rfl
theorem zT_36 : zT 36 = zt_36 := rfl
theorem zT_37 : zT 37 = zt_37 := rfl
theorem zT_38 : zT 38 = zt_38 := rfl
theorem zT_39 : zT 39 = zt_39 := rfl
theorem zT_40 : zT 40 = zt_40 := rfl
theorem zT_41 : zT 41 = zt_41 := rfl
theorem zT_42 : zT 42 = zt_42 := rfl
theorem zT_43 : zT 43 = zt_43 := rfl
theorem zT_44 : zT 44 = zt_44 := rfl
theorem zT_45 : zT 45 = zt_45 := rfl
theorem zT_46 : zT 46 = zt_46 := rfl
theorem zT_47 : zT 47 = zt_47 := rfl
theorem zT_48 : zT 48 = zt_48 := rfl
theorem zT_49 : zT 49 = zt_49 := rfl
theorem zT_50 : zT 50 = zt_50 := rfl
theorem zT_51 : zT 51 = zt_51 := rfl
theorem zT_52 : zT 52 = zt_52 := rfl
theorem zT_53 : zT 53 = zt_53 := rfl
theorem zT_54 : zT 54 = zt_54 := rfl
theorem zT_55 : zT 55 = zt_55 := rfl
theorem zT_56 : zT 56 = zt_56 := rfl
theorem zT_57 : zT 57 = zt_57 := rfl
theorem zT_58 : zT 58 = zt_58 := rfl
theorem zT_59 : zT 59 = zt_59 := rfl
theorem zT_60 : zT 60 = zt_60 := rfl
theorem zT_61 : zT 61 = zt_61 := rfl
theorem zT_62 : zT 62 = zt_62 := rfl
theorem zT_63 : zT 63 = zt_63 := rfl
theorem zT_64 : zT 64 = zt_64 := rfl
theorem zT_65 : zT 65 = zt_65 := rfl
theorem zT_66 : zT 66 = zt_66 := rfl
theorem zT_67 : zT 67 = zt_67 := rfl
theorem zT_68 : zT 68 = zt_68 := rfl
theorem zT_69 : zT 69 = zt_69 := rfl
theorem zT_70 : zT 70 = zt_70 := rfl
theorem zT_71 : zT 71 = zt_71 := rfl
theorem zT_72 : zT 72 = zt_72 := rfl
theorem zT_73 : zT 73 = zt_73 := rfl
theorem zT_74 : zT 74 = zt_74 := rfl
theorem zT_75 : zT 75 = zt_75 := rfl
theorem zT_76 : zT 76 = zt_76 := rfl
theorem zT_77 : zT 77 = zt_77 := rfl
theorem zT_78 : zT 78 = zt_78 := rfl
theorem zT_79 : zT 79 = zt_79 := rfl
theorem zT_80 : zT 80 = zt_80 := rfl
theorem zT_81 : zT 81 = zt_81 := rfl
theorem zT_82 : zT 82 = zt_82 := rfl
theorem zT_83 : zT 83 = zt_83 := rfl
theorem zT_84 : zT 84 = zt_84 := rfl
theorem zT_85 : zT 85 = zt_85 := rfl
theorem zT_86 : zT 86 = zt_86 := rfl
theorem zT_87 : zT 87 = zt_87 := rfl
theorem zT_88 : zT 88 = zt_88 := rfl
theorem zT_89 : zT 89 = zt_89 := rfl
theorem zT_90 : zT 90 = zt_90 := rfl
theorem zT_91 : zT 91 = zt_91 := rfl
theorem zT_92 : zT 92 = zt_92 := rfl
theorem zT_93 : zT 93 = zt_93 := rfl
theorem zT_94 : zT 94 = zt_94 := rfl
theorem zT_95 : zT 95 = zt_95 := rfl
theorem zT_96 : zT 96 = zt_96 := rfl
theorem zT_97 : zT 97 = zt_97 := rfl
theorem zT_98 : zT 98 = zt_98 := rfl
theorem zT_99 : zT 99 = zt_99 := rfl
theorem zT_100 : zT 100 = zt_100 := rfl
theorem zT_101 : zT 101 = zt_101 := rfl
theorem zT_102 : zT 102 = zt_102 := rfl
theorem zT_103 : zT 103 = zt_103 := rfl
theorem zT_104 : zT 104 = zt_104 := rfl
theorem zT_105 : zT 105 = zt_105 := rfl
theorem zT_106 : zT 106 = zt_106 := rfl
theorem zT_107 : zT 107 = zt_107 := rfl
theorem zT_108 : zT 108 = zt_108 := rfl
theorem zT_109 : zT 109 = zt_109 := rfl
theorem zT_110 : zT 110 = zt_110 := rfl
theorem zT_111 : zT 111 = zt_111 := rfl
theorem zT_112 : zT 112 = zt_112 := rfl
theorem zT_113 : zT 113 = zt_113 := rfl
theorem zT_114 : zT 114 = zt_114 := rfl
theorem zT_115 : zT 115 = zt_115 := rfl
theorem zT_116 : zT 116 = zt_116 := rfl
theorem zT_117 : zT 117 = zt_117 := rfl
theorem zT_118 : zT 118 = zt_118 := rfl
theorem zT_119 : zT 119 = zt_119 := rfl
theorem zT_120 : zT 120 = zt_120 := rfl
theorem zT_121 : zT 121 = zt_121 := rfl
theorem zT_122 : zT 122 = zt_122 := rfl
theorem zT_123 : zT 123 = zt_123 := rfl
theorem zT_124 : zT 124 = zt_124 := rfl
theorem zT_125 : zT 125 = zt_125 := rfl
theorem zT_126 : zT 126 = zt_126 := rfl
theorem zT_127 : zT 127 = zt_127 := rfl
theorem zT_128 : zT 128 = zt_128 := rfl
theorem zT_129 : zT 129 = zt_129 := rfl
theorem zT_130 : zT 130 = zt_130 := rfl
theorem zT_131 : zT 131 = zt_131 := rfl
theorem zT_132 : zT 132 = zt_132 := rfl
theorem zT_133 : zT 133 = zt_133 := rfl
theorem zT_134 : zT 134 = zt_134 := rfl
theorem zT_135 : zT 135 = zt_135 := rfl
theorem zT_136 : zT 136 = zt_136 := rfl
theorem zT_137 : zT 137 = zt_137 := rfl
theorem zT_138 : zT 138 = zt_138 := rfl
theorem zT_139 : zT 139 = zt_139 := rfl
theorem zT_140 : zT 140 = zt_140 := rfl
theorem zT_141 : zT 141 = zt_141 := rfl
theorem zT_142 : zT 142 = zt_142 := rfl
theorem zT_143 : zT 143 = zt_143 := rfl
theorem zT_144 : zT 144 = zt_144 := rfl
theorem zT_145 : zT 145 = zt_145 := rfl
theorem zT_146 : zT 146 = zt_146 := rfl
theorem zT_147 : zT 147 = zt_147 := rfl
theorem zT_148 : zT 148 = zt_148 := rfl
theorem zT_149 : zT 149 = zt_149 := rfl
theorem zT_150 : zT 150 = zt_150 := rfl
theorem zT_151 : zT 151 = zt_151 := rfl
theorem zT_152 : zT 152 = zt_152 := rfl
theorem zT_153 : zT 153 = zt_153 := rfl
theorem zT_154 : zT 154 = zt_154 := rfl
theorem zT_155 : zT 155 = zt_155 := rfl
theorem zT_156 : zT 156 = zt_156 := rfl
theorem zT_157 : zT 157 = zt_157 := rfl
theorem zT_158 : zT 158 = zt_158 := rfl
theorem zT_159 : zT 159 = zt_159 := rfl
theorem zT_160 : zT 160 = zt_160 := rfl
theorem zT_161 : zT 161 = zt_161 := rfl
theorem zT_162 : zT 162 = zt_162 := rfl
theorem zT_163 : zT 163 = zt_163 := rfl
theorem zT_164 : zT 164 = zt_164 := rfl
theorem zT_165 : zT 165 = zt_165 := rfl
theorem zT_166 : zT 166 = zt_166 := rfl
theorem zT_167 : zT 167 = zt_167 := rfl
theorem zT_168 : zT 168 = zt_168 := rfl
theorem zT_169 : zT 169 = zt_169 := rfl
theorem zT_170 : zT 170 = zt_170 := rfl
theorem zT_171 : zT 171 = zt_171 := rfl
theorem zT_172 : zT 172 = zt_172 := rfl
theorem zT_173 : zT 173 = zt_173 := rfl
theorem zT_174 : zT 174 = zt_174 := rfl
theorem zT_175 : zT 175 = zt_175 := rfl
theorem zT_176 : zT 176 = zt_176 := rfl
theorem zT_177 : zT 177 = zt_177 := rfl
theorem zT_178 : zT 178 = zt_178 := rfl
theorem zT_179 : zT 179 = zt_179 := rfl
theorem zT_180 : zT 180 = zt_180 := rfl
theorem zT_181 : zT 181 = zt_181 := rfl
theorem zT_182 : zT 182 = zt_182 := rfl
theorem zT_183 : zT 183 = zt_183 := rfl
theorem zT_184 : zT 184 = zt_184 := rfl
theorem zT_185 : zT 185 = zt_185 := rfl
theorem zT_186 : zT 186 = zt_186 := rfl
theorem zT_187 : zT 187 = zt_187 := rfl
theorem zT_188 : zT 188 = zt_188 := rfl
theorem zT_189 : zT 189 = zt_189 := rfl
theorem zT_190 : zT 190 = zt_190 := rfl
theorem zT_191 : zT 191 = zt_191 := rfl
theorem zT_192 : zT 192 = zt_192 := rfl
theorem zT_193 : zT 193 = zt_193 := rfl
theorem zT_194 : zT 194 = zt_194 := rfl
theorem zT_195 : zT 195 = zt_195 := rfl
theorem zT_196 : zT 196 = zt_196 := rfl
theorem zT_197 : zT 197 = zt_197 := rfl
theorem zT_198 : zT 198 = zt_198 := rfl
theorem zT_199 : zT 199 = zt_199 := rfl
theorem zT_200 : zT 200 = zt_200 := rfl
theorem zT_201 : zT 201 = zt_201 := rfl
theorem zT_202 : zT 202 = zt_202 := rfl
theorem zT_203 : zT 203 = zt_203 := rfl
theorem zT_204 : zT 204 = zt_204 := rfl
theorem zT_205 : zT 205 = zt_205 := rfl
theorem zT_206 : zT 206 = zt_206 := rfl
theorem zT_207 : zT 207 = zt_207 := rfl
theorem zT_208 : zT 208 = zt_208 := rfl
theorem zT_209 : zT 209 = zt_209 := rfl
theorem zT_210 : zT 210 = zt_210 := rfl
theorem zT_211 : zT 211 = zt_211 := rfl
theorem zT_212 : zT 212 = zt_212 := rfl
theorem zT_213 : zT 213 = zt_213 := rfl
theorem zT_214 : zT 214 = zt_214 := rfl
theorem zT_215 : zT 215 = zt_215 := rfl
theorem zT_len : zTl.length = 216 := by decide +kernel
theorem zT_out (k : Nat) (h : 216 ≤ k) (pc : Nat) (lo : zL) (st : List Value) (hh : zH) : zT k pc lo st hh = none := by
  unfold zT
  rw [List.getD_eq_getElem?_getD, List.getElem?_eq_none (by rw [zT_len]; exact h)]
  rfl
def zOkM (G : zG) (L : Nat) (xs : Nat → Int32) (k : Nat) : Prop := ∀ pc, zSnd G L xs (zy k).cls (zcode k) (znl k) (zret k) pc (zT k pc)
theorem zO_0 (G : zG) (L : Nat) (xs : Nat → Int32) : zOkM G L xs 0 := fun pc => zp_0 G L xs pc
theorem zO_1 (G : zG) (L : Nat) (xs : Nat → Int32) : zOkM G L xs 1 := fun pc => zp_1 G L xs pc
theorem zO_2 (G : zG) (L : Nat) (xs : Nat → Int32) : zOkM G L xs 2 := fun pc => zp_2 G L xs pc
theorem zO_3 (G : zG) (L : Nat) (xs : Nat → Int32) : zOkM G L xs 3 := fun pc => zp_3 G L xs pc
theorem zO_4 (G : zG) (L : Nat) (xs : Nat → Int32) : zOkM G L xs 4 := fun pc => zp_4 G L xs pc
theorem zO_5 (G : zG) (L : Nat) (xs : Nat → Int32) : zOkM G L xs 5 := fun pc => zp_5 G L xs pc
theorem zO_6 (G : zG) (L : Nat) (xs : Nat → Int32) : zOkM G L xs 6 := fun pc => zp_6 G L xs pc
theorem zO_7 (G : zG) (L : Nat) (xs : Nat → Int32) : zOkM G L xs 7 := fun pc => zp_7 G L xs pc
theorem zO_8 (G : zG) (L : Nat) (xs : Nat → Int32) : zOkM G L xs 8 := fun pc => zp_8 G L xs pc
theorem zO_9 (G : zG) (L : Nat) (xs : Nat → Int32) : zOkM G L xs 9 := fun pc => zp_9 G L xs pc
theorem zO_10 (G : zG) (L : Nat) (xs : Nat → Int32) : zOkM G L xs 10 := fun pc => zp_10 G L xs pc
theorem zO_11 (G : zG) (L : Nat) (xs : Nat → Int32) : zOkM G L xs 11 := fun pc => zp_11 G L xs pc
theorem zO_12 (G : zG) (L : Nat) (xs : Nat → Int32) : zOkM G L xs 12 := fun pc => zp_12 G L xs pc
theorem zO_13 (G : zG) (L : Nat) (xs : Nat → Int32) : zOkM G L xs 13 := fun pc => zp_13 G L xs pc
theorem zO_14 (G : zG) (L : Nat) (xs : Nat → Int32) : zOkM G L xs 14 := fun pc => zp_14 G L xs pc
theorem zO_15 (G : zG) (L : Nat) (xs : Nat → Int32) : zOkM G L xs 15 := fun pc => zp_15 G L xs pc
theorem zO_16 (G : zG) (L : Nat) (xs : Nat → Int32) : zOkM G L xs 16 := fun pc => zp_16 G L xs pc
theorem zO_17 (G : zG) (L : Nat) (xs : Nat → Int32) : zOkM G L xs 17 := fun pc => zp_17 G L xs pc
theorem zO_18 (G : zG) (L : Nat) (xs : Nat → Int32) : zOkM G L xs 18 := fun pc => zp_18 G L xs pc
theorem zO_19 (G : zG) (L : Nat) (xs : Nat → Int32) : zOkM G L xs 19 := fun pc => zp_19 G L xs pc
theorem zO_20 (G : zG) (L : Nat) (xs : Nat → Int32) : zOkM G L xs 20 := fun pc => zp_20 G L xs pc
theorem zO_21 (G : zG) (L : Nat) (xs : Nat → Int32) : zOkM G L xs 21 := fun pc => zp_21 G L xs pc
theorem zO_22 (G : zG) (L : Nat) (xs : Nat → Int32) : zOkM G L xs 22 := fun pc => zp_22 G L xs pc
theorem zO_23 (G : zG) (L : Nat) (xs : Nat → Int32) : zOkM G L xs 23 := fun pc => zp_23 G L xs pc
theorem zO_24 (G : zG) (L : Nat) (xs : Nat → Int32) : zOkM G L xs 24 := fun pc => zp_24 G L xs pc
theorem zO_25 (G : zG) (L : Nat) (xs : Nat → Int32) : zOkM G L xs 25 := fun pc => zp_25 G L xs pc
theorem zO_26 (G : zG) (L : Nat) (xs : Nat → Int32) : zOkM G L xs 26 := fun pc => zp_26 G L xs pc
theorem zO_27 (G : zG) (L : Nat) (xs : Nat → Int32) : zOkM G L xs 27 := fun pc => zp_27 G L xs pc
theorem zO_28 (G : zG) (L : Nat) (xs : Nat → Int32) : zOkM G L xs 28 := fun pc => zp_28 G L xs pc
theorem zO_29 (G : zG) (L : Nat) (xs : Nat → Int32) : zOkM G L xs 29 := fun pc => zp_29 G L xs pc
theorem zO_30 (G : zG) (L : Nat) (xs : Nat → Int32) : zOkM G L xs 30 := fun pc => zp_30 G L xs pc
theorem zO_31 (G : zG) (L : Nat) (xs : Nat → Int32) : zOkM G L xs 31 := fun pc => zp_31 G L xs pc
theorem zO_32 (G : zG) (L : Nat) (xs : Nat → Int32) : zOkM G L xs 32 := fun pc => zp_32 G L xs pc
theorem zO_33 (G : zG) (L : Nat) (xs : Nat → Int32) : zOkM G L xs 33 := fun pc => zp_33 G L xs pc
theorem zO_34 (G : zG) (L : Nat) (xs : Nat → Int32) : zOkM G L xs 34 := fun pc => zp_34 G L xs pc
theorem zO_35 (G : zG) (L : Nat) (xs : Nat → Int32) : zOkM G L xs 35 := fun pc => zp_35 G L xs pc
theorem zO_36 (G : zG) (L : Nat) (xs : Nat → Int32) : zOkM G L xs 36 := fun pc => zp_36 G L xs pc
theorem zO_37 (G : zG) (L : Nat) (xs : Nat → Int32) : zOkM G L xs 37 := fun pc => zp_37 G L xs pc
theorem zO_38 (G : zG) (L : Nat) (xs : Nat → Int32) : zOkM G L xs 38 := fun pc => zp_38 G L xs pc
theorem zO_39 (G : zG) (L : Nat) (xs : Nat → Int32) : zOkM G L xs 39 := fun pc => zp_39 G L xs pc
theorem zO_40 (G : zG) (L : Nat) (xs : Nat → Int32) : zOkM G L xs 40 := fun pc => zp_40 G L xs pc
theorem zO_41 (G : zG) (L : Nat) (xs : Nat → Int32) : zOkM G L xs 41 := fun pc => zp_41 G L xs pc
theorem zO_42 (G : zG) (L : Nat) (xs : Nat → Int32) : zOkM G L xs 42 := fun pc => zp_42 G L xs pc
theorem zO_43 (G : zG) (L : Nat) (xs : Nat → Int32) : zOkM G L xs 43 := fun pc => zp_43 G L xs pc
theorem zO_44 (G : zG) (L : Nat) (xs : Nat → Int32) : zOkM G L xs 44 := fun pc => zp_44 G L xs pc
theorem zO_45 (G : zG) (L : Nat) (xs : Nat → Int32) : zOkM G L xs 45 := fun pc => zp_45 G L xs pc
theorem zO_46 (G : zG) (L : Nat) (xs : Nat → Int32) : zOkM G L xs 46 := fun pc => zp_46 G L xs pc
theorem zO_47 (G : zG) (L : Nat) (xs : Nat → Int32) : zOkM G L xs 47 := fun pc => zp_47 G L xs pc
theorem zO_48 (G : zG) (L : Nat) (xs : Nat → Int32) : zOkM G L xs 48 := fun pc => zp_48 G L xs pc
theorem zO_49 (G : zG) (L : Nat) (xs : Nat → Int32) : zOkM G L xs 49 := fun pc => zp_49 G L xs pc
theorem zO_50 (G : zG) (L : Nat) (xs : Nat → Int32) : zOkM G L xs 50 := fun pc => zp_50 G L xs pc
theorem zO_51 (G : zG) (L : Nat) (xs : Nat → Int32) : zOkM G L xs 51 := fun pc => zp_51 G L xs pc
theorem zO_52 (G : zG) (L : Nat) (xs : Nat → Int32) : zOkM G L xs 52 := fun pc => zp_52 G L xs pc
theorem zO_53 (G : zG) (L : Nat) (xs : Nat → Int32) : zOkM G L xs 53 := fun pc => zp_53 G L xs pc
theorem zO_54 (G : zG) (L : Nat) (xs : Nat → Int32) : zOkM G L xs 54 := fun pc => zp_54 G L xs pc
theorem zO_55 (G : zG) (L : Nat) (xs : Nat → Int32) : zOkM G L xs 55 := fun pc => zp_55 G L xs pc
theorem zO_56 (G : zG) (L : Nat) (xs : Nat → Int32) : zOkM G L xs 56 := fun pc => zp_56 G L xs pc
theorem zO_57 (G : zG) (L : Nat) (xs : Nat → Int32) : zOkM G L xs 57 := fun pc => zp_57 G L xs pc
theorem zO_58 (G : zG) (L : Nat) (xs : Nat → Int32) : zOkM G L xs 58 := fun pc => zp_58 G L xs pc
theorem zO_59 (G : zG) (L : Nat) (xs : Nat → Int32) : zOkM G L xs 59 := fun pc => zp_59 G L xs pc
theorem zO_60 (G : zG) (L : Nat) (xs : Nat → Int32) : zOkM G L xs 60 := fun pc => zp_60 G L xs pc
theorem zO_61 (G : zG) (L : Nat) (xs : Nat → Int32) : zOkM G L xs 61 := fun pc => zp_61 G L xs pc
theorem zO_62 (G : zG) (L : Nat) (xs : Nat → Int32) : zOkM G L xs 62 := fun pc => zp_62 G L xs pc
theorem zO_63 (G : zG) (L : Nat) (xs : Nat → Int32) : zOkM G L xs 63 := fun pc => zp_63 G L xs pc
theorem zO_64 (G : zG) (L : Nat) (xs : Nat → Int32) : zOkM G L xs 64 := fun pc => zp_64 G L xs pc
theorem zO_65 (G : zG) (L : Nat) (xs : Nat → Int32) : zOkM G L xs 65 := fun pc => zp_65 G L xs pc
theorem zO_66 (G : zG) (L : Nat) (xs : Nat → Int32) : zOkM G L xs 66 := fun pc => zp_66 G L xs pc
theorem zO_67 (G : zG) (L : Nat) (xs : Nat → Int32) : zOkM G L xs 67 := fun pc => zp_67 G L xs pc
theorem zO_68 (G : zG) (L : Nat) (xs : Nat → Int32) : zOkM G L xs 68 := fun pc => zp_68 G L xs pc
theorem zO_69 (G : zG) (L : Nat) (xs : Nat → Int32) : zOkM G L xs 69 := fun pc => zp_69 G L xs pc
theorem zO_70 (G : zG) (L : Nat) (xs : Nat → Int32) : zOkM G L xs 70 := fun pc => zp_70 G L xs pc
theorem zO_71 (G : zG) (L : Nat) (xs : Nat → Int32) : zOkM G L xs 71 := fun pc => zp_71 G L xs pc
theorem zO_72 (G : zG) (L : Nat) (xs : Nat → Int32) : zOkM G L xs 72 := fun pc => zp_72 G L xs pc
theorem zO_73 (G : zG) (L : Nat) (xs : Nat → Int32) : zOkM G L xs 73 := fun pc => zp_73 G L xs pc
theorem zO_74 (G : zG) (L : Nat) (xs : Nat → Int32) : zOkM G L xs 74 := fun pc => zp_74 G L xs pc
theorem zO_75 (G : zG) (L : Nat) (xs : Nat → Int32) : zOkM G L xs 75 := fun pc => zp_75 G L xs pc
theorem zO_76 (G : zG) (L : Nat) (xs : Nat → Int32) : zOkM G L xs 76 := fun pc => zp_76 G L xs pc
theorem zO_77 (G : zG) (L : Nat) (xs : Nat → Int32) : zOkM G L xs 77 := fun pc => zp_77 G L xs pc
theorem zO_78 (G : zG) (L : Nat) (xs : Nat → Int32) : zOkM G L xs 78 := fun pc => zp_78 G L xs pc
theorem zO_79 (G : zG) (L : Nat) (xs : Nat → Int32) : zOkM G L xs 79 := fun pc => zp_79 G L xs pc
theorem zO_80 (G : zG) (L : Nat) (xs : Nat → Int32) : zOkM G L xs 80 := fun pc => zp_80 G L xs pc
theorem zO_81 (G : zG) (L : Nat) (xs : Nat → Int32) : zOkM G L xs 81 := fun pc => zp_81 G L xs pc
theorem zO_82 (G : zG) (L : Nat) (xs : Nat → Int32) : zOkM G L xs 82 := fun pc => zp_82 G L xs pc
theorem zO_83 (G : zG) (L : Nat) (xs : Nat → Int32) : zOkM G L xs 83 := fun pc => zp_83 G L xs pc
theorem zO_84 (G : zG) (L : Nat) (xs : Nat → Int32) : zOkM G L xs 84 := fun pc => zp_84 G L xs pc
theorem zO_85 (G : zG) (L : Nat) (xs : Nat → Int32) : zOkM G L xs 85 := fun pc => zp_85 G L xs pc
theorem zO_86 (G : zG) (L : Nat) (xs : Nat → Int32) : zOkM G L xs 86 := fun pc => zp_86 G L xs pc
theorem zO_87 (G : zG) (L : Nat) (xs : Nat → Int32) : zOkM G L xs 87 := fun pc => zp_87 G L xs pc
theorem zO_88 (G : zG) (L : Nat) (xs : Nat → Int32) : zOkM G L xs 88 := fun pc => zp_88 G L xs pc
theorem zO_89 (G : zG) (L : Nat) (xs : Nat → Int32) : zOkM G L xs 89 := fun pc => zp_89 G L xs pc
theorem zO_90 (G : zG) (L : Nat) (xs : Nat → Int32) : zOkM G L xs 90 := fun pc => zp_90 G L xs pc
theorem zO_91 (G : zG) (L : Nat) (xs : Nat → Int32) : zOkM G L xs 91 := fun pc => zp_91 G L xs pc
theorem zO_92 (G : zG) (L : Nat) (xs : Nat → Int32) : zOkM G L xs 92 := fun pc => zp_92 G L xs pc
theorem zO_93 (G : zG) (L : Nat) (xs : Nat → Int32) : zOkM G L xs 93 := fun pc => zp_93 G L xs pc
theorem zO_94 (G : zG) (L : Nat) (xs : Nat → Int32) : zOkM G L xs 94 := fun pc => zp_94 G L xs pc
theorem zO_95 (G : zG) (L : Nat) (xs : Nat → Int32) : zOkM G L xs 95 := fun pc => zp_95 G L xs pc
theorem zO_96 (G : zG) (L : Nat) (xs : Nat → Int32) : zOkM G L xs 96 := fun pc => zp_96 G L xs pc
theorem zO_97 (G : zG) (L : Nat) (xs : Nat → Int32) : zOkM G L xs 97 := fun pc => zp_97 G L xs pc
theorem zO_98 (G : zG) (L : Nat) (xs : Nat → Int32) : zOkM G L xs 98 := fun pc => zp_98 G L xs pc
theorem zO_99 (G : zG) (L : Nat) (xs : Nat → Int32) : zOkM G L xs 99 := fun pc => zp_99 G L xs pc
theorem zO_100 (G : zG) (L : Nat) (xs : Nat → Int32) : zOkM G L xs 100 := fun pc => zp_100 G L xs pc
theorem zO_101 (G : zG) (L : Nat) (xs : Nat → Int32) : zOkM G L xs 101 := fun pc => zp_101 G L xs pc
theorem zO_102 (G : zG) (L : Nat) (xs : Nat → Int32) : zOkM G L xs 102 := fun pc => zp_102 G L xs pc
theorem zO_103 (G : zG) (L : Nat) (xs : Nat → Int32) : zOkM G L xs 103 := fun pc => zp_103 G L xs pc
theorem zO_104 (G : zG) (L : Nat) (xs : Nat → Int32) : zOkM G L xs 104 := fun pc => zp_104 G L xs pc
theorem zO_105 (G : zG) (L : Nat) (xs : Nat → Int32) : zOkM G L xs 105 := fun pc => zp_105 G L xs pc
theorem zO_106 (G : zG) (L : Nat) (xs : Nat → Int32) : zOkM G L xs 106 := fun pc => zp_106 G L xs pc
theorem zO_107 (G : zG) (L : Nat) (xs : Nat → Int32) : zOkM G L xs 107 := fun pc => zp_107 G L xs pc
theorem zO_108 (G : zG) (L : Nat) (xs : Nat → Int32) : zOkM G L xs 108 := fun pc => zp_108 G L xs pc
theorem zO_109 (G : zG) (L : Nat) (xs : Nat → Int32) : zOkM G L xs 109 := fun pc => zp_109 G L xs pc
theorem zO_110 (G : zG) (L : Nat) (xs : Nat → Int32) : zOkM G L xs 110 := fun pc => zp_110 G L xs pc
theorem zO_111 (G : zG) (L : Nat) (xs : Nat → Int32) : zOkM G L xs 111 := fun pc => zp_111 G L xs pc
theorem zO_112 (G : zG) (L : Nat) (xs : Nat → Int32) : zOkM G L xs 112 := fun pc => zp_112 G L xs pc
theorem zO_113 (G : zG) (L : Nat) (xs : Nat → Int32) : zOkM G L xs 113 := fun pc => zp_113 G L xs pc
theorem zO_114 (G : zG) (L : Nat) (xs : Nat → Int32) : zOkM G L xs 114 := fun pc => zp_114 G L xs pc
theorem zO_115 (G : zG) (L : Nat) (xs : Nat → Int32) : zOkM G L xs 115 := fun pc => zp_115 G L xs pc
theorem zO_116 (G : zG) (L : Nat) (xs : Nat → Int32) : zOkM G L xs 116 := fun pc => zp_116 G L xs pc
theorem zO_117 (G : zG) (L : Nat) (xs : Nat → Int32) : zOkM G L xs 117 := fun pc => zp_117 G L xs pc
theorem zO_118 (G : zG) (L : Nat) (xs : Nat → Int32) : zOkM G L xs 118 := fun pc => zp_118 G L xs pc
theorem zO_119 (G : zG) (L : Nat) (xs : Nat → Int32) : zOkM G L xs 119 := fun pc => zp_119 G L xs pc
theorem zO_120 (G : zG) (L : Nat) (xs : Nat → Int32) : zOkM G L xs 120 := fun pc => zp_120 G L xs pc
theorem zO_121 (G : zG) (L : Nat) (xs : Nat → Int32) : zOkM G L xs 121 := fun pc => zp_121 G L xs pc
theorem zO_122 (G : zG) (L : Nat) (xs : Nat → Int32) : zOkM G L xs 122 := fun pc => zp_122 G L xs pc
theorem zO_123 (G : zG) (L : Nat) (xs : Nat → Int32) : zOkM G L xs 123 := fun pc => zp_123 G L xs pc
theorem zO_124 (G : zG) (L : Nat) (xs : Nat → Int32) : zOkM G L xs 124 := fun pc => zp_124 G L xs pc
theorem zO_125 (G : zG) (L : Nat) (xs : Nat → Int32) : zOkM G L xs 125 := fun pc => zp_125 G L xs pc
theorem zO_126 (G : zG) (L : Nat) (xs : Nat → Int32) : zOkM G L xs 126 := fun pc => zp_126 G L xs pc
theorem zO_127 (G : zG) (L : Nat) (xs : Nat → Int32) : zOkM G L xs 127 := fun pc => zp_127 G L xs pc
theorem zO_128 (G : zG) (L : Nat) (xs : Nat → Int32) : zOkM G L xs 128 := fun pc => zp_128 G L xs pc
theorem zO_129 (G : zG) (L : Nat) (xs : Nat → Int32) : zOkM G L xs 129 := fun pc => zp_129 G L xs pc
theorem zO_130 (G : zG) (L : Nat) (xs : Nat → Int32) : zOkM G L xs 130 := fun pc => zp_130 G L xs pc
theorem zO_131 (G : zG) (L : Nat) (xs : Nat → Int32) : zOkM G L xs 131 := fun pc => zp_131 G L xs pc
theorem zO_132 (G : zG) (L : Nat) (xs : Nat → Int32) : zOkM G L xs 132 := fun pc => zp_132 G L xs pc
theorem zO_133 (G : zG) (L : Nat) (xs : Nat → Int32) : zOkM G L xs 133 := fun pc => zp_133 G L xs pc
theorem zO_134 (G : zG) (L : Nat) (xs : Nat → Int32) : zOkM G L xs 134 := fun pc => zp_134 G L xs pc
theorem zO_135 (G : zG) (L : Nat) (xs : Nat → Int32) : zOkM G L xs 135 := fun pc => zp_135 G L xs pc
theorem zO_136 (G : zG) (L : Nat) (xs : Nat → Int32) : zOkM G L xs 136 := fun pc => zp_136 G L xs pc
theorem zO_137 (G : zG) (L : Nat) (xs : Nat → Int32) : zOkM G L xs 137 := fun pc => zp_137 G L xs pc
theorem zO_138 (G : zG) (L : Nat) (xs : Nat → Int32) : zOkM G L xs 138 := fun pc => zp_138 G L xs pc
theorem zO_139 (G : zG) (L : Nat) (xs : Nat → Int32) : zOkM G L xs 139 := fun pc => zp_139 G L xs pc
theorem zO_140 (G : zG) (L : Nat) (xs : Nat → Int32) : zOkM G L xs 140 := fun pc => zp_140 G L xs pc
theorem zO_141 (G : zG) (L : Nat) (xs : Nat → Int32) : zOkM G L xs 141 := fun pc => zp_141 G L xs pc
theorem zO_142 (G : zG) (L : Nat) (xs : Nat → Int32) : zOkM G L xs 142 := fun pc => zp_142 G L xs pc
theorem zO_143 (G : zG) (L : Nat) (xs : Nat → Int32) : zOkM G L xs 143 := fun pc => zp_143 G L xs pc
theorem zO_144 (G : zG) (L : Nat) (xs : Nat → Int32) : zOkM G L xs 144 := fun pc => zp_144 G L xs pc
theorem zO_145 (G : zG) (L : Nat) (xs : Nat → Int32) : zOkM G L xs 145 := fun pc => zp_145 G L xs pc
theorem zO_146 (G : zG) (L : Nat) (xs : Nat → Int32) : zOkM G L xs 146 := fun pc => zp_146 G L xs pc
theorem zO_147 (G : zG) (L : Nat) (xs : Nat → Int32) : zOkM G L xs 147 := fun pc => zp_147 G L xs pc
theorem zO_148 (G : zG) (L : Nat) (xs : Nat → Int32) : zOkM G L xs 148 := fun pc => zp_148 G L xs pc
theorem zO_149 (G : zG) (L : Nat) (xs : Nat → Int32) : zOkM G L xs 149 := fun pc => zp_149 G L xs pc
theorem zO_150 (G : zG) (L : Nat) (xs : Nat → Int32) : zOkM G L xs 150 := fun pc => zp_150 G L xs pc
theorem zO_151 (G : zG) (L : Nat) (xs : Nat → Int32) : zOkM G L xs 151 := fun pc => zp_151 G L xs pc
theorem zO_152 (G : zG) (L : Nat) (xs : Nat → Int32) : zOkM G L xs 152 := fun pc => zp_152 G L xs pc
theorem zO_153 (G : zG) (L : Nat) (xs : Nat → Int32) : zOkM G L xs 153 := fun pc => zp_153 G L xs pc
theorem zO_154 (G : zG) (L : Nat) (xs : Nat → Int32) : zOkM G L xs 154 := fun pc => zp_154 G L xs pc
theorem zO_155 (G : zG) (L : Nat) (xs : Nat → Int32) : zOkM G L xs 155 := fun pc => zp_155 G L xs pc
theorem zO_156 (G : zG) (L : Nat) (xs : Nat → Int32) : zOkM G L xs 156 := fun pc => zp_156 G L xs pc
theorem zO_157 (G : zG) (L : Nat) (xs : Nat → Int32) : zOkM G L xs 157 := fun pc => zp_157 G L xs pc
theorem zO_158 (G : zG) (L : Nat) (xs : Nat → Int32) : zOkM G L xs 158 := fun pc => zp_158 G L xs pc
theorem zO_159 (G : zG) (L : Nat) (xs : Nat → Int32) : zOkM G L xs 159 := fun pc => zp_159 G L xs pc
theorem zO_160 (G : zG) (L : Nat) (xs : Nat → Int32) : zOkM G L xs 160 := fun pc => zp_160 G L xs pc
theorem zO_161 (G : zG) (L : Nat) (xs : Nat → Int32) : zOkM G L xs 161 := fun pc => zp_161 G L xs pc
theorem zO_162 (G : zG) (L : Nat) (xs : Nat → Int32) : zOkM G L xs 162 := fun pc => zp_162 G L xs pc
theorem zO_163 (G : zG) (L : Nat) (xs : Nat → Int32) : zOkM G L xs 163 := fun pc => zp_163 G L xs pc
theorem zO_164 (G : zG) (L : Nat) (xs : Nat → Int32) : zOkM G L xs 164 := fun pc => zp_164 G L xs pc
theorem zO_165 (G : zG) (L : Nat) (xs : Nat → Int32) : zOkM G L xs 165 := fun pc => zp_165 G L xs pc
theorem zO_166 (G : zG) (L : Nat) (xs : Nat → Int32) : zOkM G L xs 166 := fun pc => zp_166 G L xs pc
theorem zO_167 (G : zG) (L : Nat) (xs : Nat → Int32) : zOkM G L xs 167 := fun pc => zp_167 G L xs pc
theorem zO_168 (G : zG) (L : Nat) (xs : Nat → Int32) : zOkM G L xs 168 := fun pc => zp_168 G L xs pc
theorem zO_169 (G : zG) (L : Nat) (xs : Nat → Int32) : zOkM G L xs 169 := fun pc => zp_169 G L xs pc
theorem zO_170 (G : zG) (L : Nat) (xs : Nat → Int32) : zOkM G L xs 170 := fun pc => zp_170 G L xs pc
theorem zO_171 (G : zG) (L : Nat) (xs : Nat → Int32) : zOkM G L xs 171 := fun pc => zp_171 G L xs pc
theorem zO_172 (G : zG) (L : Nat) (xs : Nat → Int32) : zOkM G L xs 172 := fun pc => zp_172 G L xs pc
theorem zO_173 (G : zG) (L : Nat) (xs : Nat → Int32) : zOkM G L xs 173 := fun pc => zp_173 G L xs pc
theorem zO_174 (G : zG) (L : Nat) (xs : Nat → Int32) : zOkM G L xs 174 := fun pc => zp_174 G L xs pc
theorem zO_175 (G : zG) (L : Nat) (xs : Nat → Int32) : zOkM G L xs 175 := fun pc => zp_175 G L xs pc
theorem zO_176 (G : zG) (L : Nat) (xs : Nat → Int32) : zOkM G L xs 176 := fun pc => zp_176 G L xs pc
theorem zO_177 (G : zG) (L : Nat) (xs : Nat → Int32) : zOkM G L xs 177 := fun pc => zp_177 G L xs pc
theorem zO_178 (G : zG) (L : Nat) (xs : Nat → Int32) : zOkM G L xs 178 := fun pc => zp_178 G L xs pc
theorem zO_179 (G : zG) (L : Nat) (xs : Nat → Int32) : zOkM G L xs 179 := fun pc => zp_179 G L xs pc
theorem zO_180 (G : zG) (L : Nat) (xs : Nat → Int32) : zOkM G L xs 180 := fun pc => zp_180 G L xs pc
theorem zO_181 (G : zG) (L : Nat) (xs : Nat → Int32) : zOkM G L xs 181 := fun pc => zp_181 G L xs pc
theorem zO_182 (G : zG) (L : Nat) (xs : Nat → Int32) : zOkM G L xs 182 := fun pc => zp_182 G L xs pc
theorem zO_183 (G : zG) (L : Nat) (xs : Nat → Int32) : zOkM G L xs 183 := fun pc => zp_183 G L xs pc
theorem zO_184 (G : zG) (L : Nat) (xs : Nat → Int32) : zOkM G L xs 184 := fun pc => zp_184 G L xs pc
theorem zO_185 (G : zG) (L : Nat) (xs : Nat → Int32) : zOkM G L xs 185 := fun pc => zp_185 G L xs pc
theorem zO_186 (G : zG) (L : Nat) (xs : Nat → Int32) : zOkM G L xs 186 := fun pc => zp_186 G L xs pc
theorem zO_187 (G : zG) (L : Nat) (xs : Nat → Int32) : zOkM G L xs 187 := fun pc => zp_187 G L xs pc
theorem zO_188 (G : zG) (L : Nat) (xs : Nat → Int32) : zOkM G L xs 188 := fun pc => zp_188 G L xs pc
theorem zO_189 (G : zG) (L : Nat) (xs : Nat → Int32) : zOkM G L xs 189 := fun pc => zp_189 G L xs pc
theorem zO_190 (G : zG) (L : Nat) (xs : Nat → Int32) : zOkM G L xs 190 := fun pc => zp_190 G L xs pc
theorem zO_191 (G : zG) (L : Nat) (xs : Nat → Int32) : zOkM G L xs 191 := fun pc => zp_191 G L xs pc
theorem zO_192 (G : zG) (L : Nat) (xs : Nat → Int32) : zOkM G L xs 192 := fun pc => zp_192 G L xs pc
theorem zO_193 (G : zG) (L : Nat) (xs : Nat → Int32) : zOkM G L xs 193 := fun pc => zp_193 G L xs pc
theorem zO_194 (G : zG) (L : Nat) (xs : Nat → Int32) : zOkM G L xs 194 := fun pc => zp_194 G L xs pc
theorem zO_195 (G : zG) (L : Nat) (xs : Nat → Int32) : zOkM G L xs 195 := fun pc => zp_195 G L xs pc
theorem zO_196 (G : zG) (L : Nat) (xs : Nat → Int32) : zOkM G L xs 196 := fun pc => zp_196 G L xs pc
theorem zO_197 (G : zG) (L : Nat) (xs : Nat → Int32) : zOkM G L xs 197 := fun pc => zp_197 G L xs pc
theorem zO_198 (G : zG) (L : Nat) (xs : Nat → Int32) : zOkM G L xs 198 := fun pc => zp_198 G L xs pc
theorem zO_199 (G : zG) (L : Nat) (xs : Nat → Int32) : zOkM G L xs 199 := fun pc => zp_199 G L xs pc
theorem zO_200 (G : zG) (L : Nat) (xs : Nat → Int32) : zOkM G L xs 200 := fun pc => zp_200 G L xs pc
theorem zO_201 (G : zG) (L : Nat) (xs : Nat → Int32) : zOkM G L xs 201 := fun pc => zp_201 G L xs pc
theorem zO_202 (G : zG) (L : Nat) (xs : Nat → Int32) : zOkM G L xs 202 := fun pc => zp_202 G L xs pc
theorem zO_203 (G : zG) (L : Nat) (xs : Nat → Int32) : zOkM G L xs 203 := fun pc => zp_203 G L xs pc
theorem zO_204 (G : zG) (L : Nat) (xs : Nat → Int32) : zOkM G L xs 204 := fun pc => zp_204 G L xs pc
theorem zO_205 (G : zG) (L : Nat) (xs : Nat → Int32) : zOkM G L xs 205 := fun pc => zp_205 G L xs pc
theorem zO_206 (G : zG) (L : Nat) (xs : Nat → Int32) : zOkM G L xs 206 := fun pc => zp_206 G L xs pc
theorem zO_207 (G : zG) (L : Nat) (xs : Nat → Int32) : zOkM G L xs 207 := fun pc => zp_207 G L xs pc
theorem zO_208 (G : zG) (L : Nat) (xs : Nat → Int32) : zOkM G L xs 208 := fun pc => zp_208 G L xs pc
theorem zO_209 (G : zG) (L : Nat) (xs : Nat → Int32) : zOkM G L xs 209 := fun pc => zp_209 G L xs pc
theorem zO_210 (G : zG) (L : Nat) (xs : Nat → Int32) : zOkM G L xs 210 := fun pc => zp_210 G L xs pc
theorem zO_211 (G : zG) (L : Nat) (xs : Nat → Int32) : zOkM G L xs 211 := fun pc => zp_211 G L xs pc
theorem zO_212 (G : zG) (L : Nat) (xs : Nat → Int32) : zOkM G L xs 212 := fun pc => zp_212 G L xs pc
theorem zO_213 (G : zG) (L : Nat) (xs : Nat → Int32) : zOkM G L xs 213 := fun pc => zp_213 G L xs pc
theorem zO_214 (G : zG) (L : Nat) (xs : Nat → Int32) : zOkM G L xs 214 := fun pc => zp_214 G L xs pc
theorem zO_215 (G : zG) (L : Nat) (xs : Nat → Int32) : zOkM G L xs 215 := fun pc => zp_215 G L xs pc
theorem zOA_0 (G : zG) (L : Nat) (xs : Nat → Int32) : ∀ k, k < 50 → zOkM G L xs k := lt_s (lt_s (lt_s (lt_s (lt_s (lt_s (lt_s (lt_s (lt_s (lt_s (lt_s (lt_s (lt_s (lt_s (lt_s (lt_s (lt_s (lt_s (lt_s (lt_s (lt_s (lt_s (lt_s (lt_s (lt_s (lt_s (lt_s (lt_s (lt_s (lt_s (lt_s (lt_s (lt_s (lt_s (lt_s (lt_s (lt_s (lt_s (lt_s (lt_s (lt_s (lt_s (lt_s (lt_s (lt_s (lt_s (lt_s (lt_s (lt_s (lt_s (lt_0) (zO_0 G L xs)) (zO_1 G L xs)) (zO_2 G L xs)) (zO_3 G L xs)) (zO_4 G L xs)) (zO_5 G L xs)) (zO_6 G L xs)) (zO_7 G L xs)) (zO_8 G L xs)) (zO_9 G L xs)) (zO_10 G L xs)) (zO_11 G L xs)) (zO_12 G L xs)) (zO_13 G L xs)) (zO_14 G L xs)) (zO_15 G L xs)) (zO_16 G L xs)) (zO_17 G L xs)) (zO_18 G L xs)) (zO_19 G L xs)) (zO_20 G L xs)) (zO_21 G L xs)) (zO_22 G L xs)) (zO_23 G L xs)) (zO_24 G L xs)) (zO_25 G L xs)) (zO_26 G L xs)) (zO_27 G L xs)) (zO_28 G L xs)) (zO_29 G L xs)) (zO_30 G L xs)) (zO_31 G L xs)) (zO_32 G L xs)) (zO_33 G L xs)) (zO_34 G L xs)) (zO_35 G L xs)) (zO_36 G L xs)) (zO_37 G L xs)) (zO_38 G L xs)) (zO_39 G L xs)) (zO_40 G L xs)) (zO_41 G L xs)) (zO_42 G L xs)) (zO_43 G L xs)) (zO_44 G L xs)) (zO_45 G L xs)) (zO_46 G L xs)) (zO_47 G L xs)) (zO_48 G L xs)) (zO_49 G L xs)
theorem zOA_1 (G : zG) (L : Nat) (xs : Nat → Int32) (h : ∀ k, k < 50 → zOkM G L xs k) : ∀ k, k < 100 → zOkM G L xs k := lt_s (lt_s (lt_s (lt_s (lt_s (lt_s (lt_s (lt_s (lt_s (lt_s (lt_s (lt_s (lt_s (lt_s (lt_s (lt_s (lt_s (lt_s (lt_s (lt_s (lt_s (lt_s (lt_s (lt_s (lt_s (lt_s (lt_s (lt_s (lt_s (lt_s (lt_s (lt_s (lt_s (lt_s (lt_s (lt_s (lt_s (lt_s (lt_s (lt_s (lt_s (lt_s (lt_s (lt_s (lt_s (lt_s (lt_s (lt_s (lt_s (lt_s (h) (zO_50 G L xs)) (zO_51 G L xs)) (zO_52 G L xs)) (zO_53 G L xs)) (zO_54 G L xs)) (zO_55 G L xs)) (zO_56 G L xs)) (zO_57 G L xs)) (zO_58 G L xs)) (zO_59 G L xs)) (zO_60 G L xs)) (zO_61 G L xs)) (zO_62 G L xs)) (zO_63 G L xs)) (zO_64 G L xs)) (zO_65 G L xs)) (zO_66 G L xs)) (zO_67 G L xs)) (zO_68 G L xs)) (zO_69 G L xs)) (zO_70 G L xs)) (zO_71 G L xs)) (zO_72 G L xs)) (zO_73 G L xs)) (zO_74 G L xs)) (zO_75 G L xs)) (zO_76 G L xs)) (zO_77 G L xs)) (zO_78 G L xs)) (zO_79 G L xs)) (zO_80 G L xs)) (zO_81 G L xs)) (zO_82 G L xs)) (zO_83 G L xs)) (zO_84 G L xs)) (zO_85 G L xs)) (zO_86 G L xs)) (zO_87 G L xs)) (zO_88 G L xs)) (zO_89 G L xs)) (zO_90 G L xs)) (zO_91 G L xs)) (zO_92 G L xs)) (zO_93 G L xs)) (zO_94 G L xs)) (zO_95 G L xs)) (zO_96 G L xs)) (zO_97 G L xs)) (zO_98 G L xs)) (zO_99 G L xs)
theorem zOA_2 (G : zG) (L : Nat) (xs : Nat → Int32) (h : ∀ k, k < 100 → zOkM G L xs k) : ∀ k, k < 150 → zOkM G L xs k := lt_s (lt_s (lt_s (lt_s (lt_s (lt_s (lt_s (lt_s (lt_s (lt_s (lt_s (lt_s (lt_s (lt_s (lt_s (lt_s (lt_s (lt_s (lt_s (lt_s (lt_s (lt_s (lt_s (lt_s (lt_s (lt_s (lt_s (lt_s (lt_s (lt_s (lt_s (lt_s (lt_s (lt_s (lt_s (lt_s (lt_s (lt_s (lt_s (lt_s (lt_s (lt_s (lt_s (lt_s (lt_s (lt_s (lt_s (lt_s (lt_s (lt_s (h) (zO_100 G L xs)) (zO_101 G L xs)) (zO_102 G L xs)) (zO_103 G L xs)) (zO_104 G L xs)) (zO_105 G L xs)) (zO_106 G L xs)) (zO_107 G L xs)) (zO_108 G L xs)) (zO_109 G L xs)) (zO_110 G L xs)) (zO_111 G L xs)) (zO_112 G L xs)) (zO_113 G L xs)) (zO_114 G L xs)) (zO_115 G L xs)) (zO_116 G L xs)) (zO_117 G L xs)) (zO_118 G L xs)) (zO_119 G L xs)) (zO_120 G L xs)) (zO_121 G L xs)) (zO_122 G L xs)) (zO_123 G L xs)) (zO_124 G L xs)) (zO_125 G L xs)) (zO_126 G L xs)) (zO_127 G L xs)) (zO_128 G L xs)) (zO_129 G L xs)) (zO_130 G L xs)) (zO_131 G L xs)) (zO_132 G L xs)) (zO_133 G L xs)) (zO_134 G L xs)) (zO_135 G L xs)) (zO_136 G L xs)) (zO_137 G L xs)) (zO_138 G L xs)) (zO_139 G L xs)) (zO_140 G L xs)) (zO_141 G L xs)) (zO_142 G L xs)) (zO_143 G L xs)) (zO_144 G L xs)) (zO_145 G L xs)) (zO_146 G L xs)) (zO_147 G L xs)) (zO_148 G L xs)) (zO_149 G L xs)
theorem zOA_3 (G : zG) (L : Nat) (xs : Nat → Int32) (h : ∀ k, k < 150 → zOkM G L xs k) : ∀ k, k < 200 → zOkM G L xs k := lt_s (lt_s (lt_s (lt_s (lt_s (lt_s (lt_s (lt_s (lt_s (lt_s (lt_s (lt_s (lt_s (lt_s (lt_s (lt_s (lt_s (lt_s (lt_s (lt_s (lt_s (lt_s (lt_s (lt_s (lt_s (lt_s (lt_s (lt_s (lt_s (lt_s (lt_s (lt_s (lt_s (lt_s (lt_s (lt_s (lt_s (lt_s (lt_s (lt_s (lt_s (lt_s (lt_s (lt_s (lt_s (lt_s (lt_s (lt_s (lt_s (lt_s (h) (zO_150 G L xs)) (zO_151 G L xs)) (zO_152 G L xs)) (zO_153 G L xs)) (zO_154 G L xs)) (zO_155 G L xs)) (zO_156 G L xs)) (zO_157 G L xs)) (zO_158 G L xs)) (zO_159 G L xs)) (zO_160 G L xs)) (zO_161 G L xs)) (zO_162 G L xs)) (zO_163 G L xs)) (zO_164 G L xs)) (zO_165 G L xs)) (zO_166 G L xs)) (zO_167 G L xs)) (zO_168 G L xs)) (zO_169 G L xs)) (zO_170 G L xs)) (zO_171 G L xs)) (zO_172 G L xs)) (zO_173 G L xs)) (zO_174 G L xs)) (zO_175 G L xs)) (zO_176 G L xs)) (zO_177 G L xs)) (zO_178 G L xs)) (zO_179 G L xs)) (zO_180 G L xs)) (zO_181 G L xs)) (zO_182 G L xs)) (zO_183 G L xs)) (zO_184 G L xs)) (zO_185 G L xs)) (zO_186 G L xs)) (zO_187 G L xs)) (zO_188 G L xs)) (zO_189 G L xs)) (zO_190 G L xs)) (zO_191 G L xs)) (zO_192 G L xs)) (zO_193 G L xs)) (zO_194 G L xs)) (zO_195 G L xs)) (zO_196 G L xs)) (zO_197 G L xs)) (zO_198 G L xs)) (zO_199 G L xs)
theorem zOA_4 (G : zG) (L : Nat) (xs : Nat → Int32) (h : ∀ k, k < 200 → zOkM G L xs k) : ∀ k, k < 216 → zOkM G L xs k := lt_s (lt_s (lt_s (lt_s (lt_s (lt_s (lt_s (lt_s (lt_s (lt_s (lt_s (lt_s (lt_s (lt_s (lt_s (lt_s (h) (zO_200 G L xs)) (zO_201 G L xs)) (zO_202 G L xs)) (zO_203 G L xs)) (zO_204 G L xs)) (zO_205 G L xs)) (zO_206 G L xs)) (zO_207 G L xs)) (zO_208 G L xs)) (zO_209 G L xs)) (zO_210 G L xs)) (zO_211 G L xs)) (zO_212 G L xs)) (zO_213 G L xs)) (zO_214 G L xs)) (zO_215 G L xs)
theorem zOA (G : zG) (L : Nat) (xs : Nat → Int32) : ∀ k, k < 216 → zOkM G L xs k := zOA_4 G L xs (zOA_3 G L xs (zOA_2 G L xs (zOA_1 G L xs (zOA_0 G L xs))))
theorem zPl : ∀ k, k < 216 → plainFor (zy k) = true := by decide +kernel
/-- every call of the small machine is one of the machine -/
theorem z_all {G : zG} {L : Nat} {xs : Nat → Int32} (l : Launch) : ∀ d n k as h r h', zXD zT znl d n k as h = some (r, h') → zMet G L xs l d k as h r h' := z_met (nM := 216) (zOA G L xs) (fun k hk pc lo st h => zT_out k hk pc lo st h) zPl l
theorem zXq {d k pc : Nat} {t : Nat → zO} {op : zO} (h1 : zT k = t) (h2 : t pc = op) {lo : zL} {st : List Value} {h : zH} : zXf zT znl d k pc lo st h = zB zT znl d k (op lo st h) := by
  rw [zX_step, h1, h2]
theorem zB_cl {d k ci k2 nx : Nat} {as st : List Value} {lo : zL} {h : zH} (h4 : zok4 st = true) (hr : zrc ci as = true) : zB zT znl d k (zcl ci k2 as nx lo st h) = (zCf zT znl d k2 as h).bind fun o => zXf zT znl d k nx lo (o.1.toList ++ st) o.2 := by
  unfold zcl
  rw [if_pos ⟨h4, hr⟩]
  rfl
