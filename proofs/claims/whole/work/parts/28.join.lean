/-! ===== signs joined ===== -/
def zsig (c : Int32) : Prop := c = nI 37 ∨ c = nI 38 ∨ c = nI 42 ∨ c = nI 43 ∨ c = nI 45 ∨ c = nI 47 ∨ c = nI 60 ∨ c = nI 61 ∨ c = nI 62 ∨ c = nI 124
def zjoin (c x y : Int32) : Int32 :=
  if c = nI 37 then (if y = nI 0 then nI 0 else x % y) else if c = nI 38 then (if x = nI 0 then nI 0 else if y = nI 0 then nI 0 else nI 1) else if c = nI 42 then x * y else if c = nI 43 then x + y else if c = nI 45 then x - y else if c = nI 47 then (if y = nI 0 then nI 0 else x / y) else if c = nI 60 then (if x < y then nI 1 else nI 0) else if c = nI 61 then (if x = y then nI 1 else nI 0) else if c = nI 62 then (if y < x then nI 1 else nI 0) else (if x = nI 0 then (if y = nI 0 then nI 0 else nI 1) else nI 1)
theorem zdiv_m1 (x : Int32) : x / (-1) = -x := by
  apply Int32.toInt_inj.mp
  have e : Int32.toInt (-1) = -1 := by decide
  rw [Int32.toInt_div, e, Int32.toInt_neg]
  simp
theorem zmod_m1 (x : Int32) : x % (-1) = nI 0 := by
  apply Int32.toInt_inj.mp
  have e : Int32.toInt (-1) = -1 := by decide
  rw [Int32.toInt_mod, e]
  have e2 : (nI 0).toInt = 0 := by decide
  rw [e2]
  simp
theorem zif_le {x y a b : Int32} : (if y ≤ x then a else b) = (if x < y then b else a) := by
  by_cases q : x < y
  · rw [if_pos q, if_neg (Int32.not_le.mpr q)]
  · rw [if_neg q, if_pos (Int32.not_lt.mp q)]
section JN
variable (d : Nat) (h : zH) (c x y : Int32)
theorem c122 (hc : zsig c) : zCf zT znl (d + 1) 122 [.int c, .int x, .int y] h = some (some (.int (zjoin c x y)), h) := by
  rcases hc with rfl | rfl | rfl | rfl | rfl | rfl | rfl | rfl | rfl | rfl <;> by_cases hy : y = nI 0
  all_goals first
    | (subst hy
       simp only [e122, q122_0, q122_1, q122_120, q122_121, q122_122, q122_123, q122_124, q122_125, q122_126, q122_127, q122_128, q122_129, q122_130, q122_131, q122_132, q122_133, q122_136, q122_137, q122_140, q122_141, q122_142, q122_145, q122_146, q122_147, q122_150, q122_151, q122_152, q122_153, q122_154, q122_155, q122_158, q122_159, q122_160, q122_163, q122_164, q122_167, q122_168, q122_169, q122_170, q122_171, q122_172, q122_173, q122_176, q122_177, q122_180, q122_181, q122_182, q122_183, q122_184, q122_187, q122_188, q122_191, q122_192, q122_193, q122_194, q122_195, q122_198, q122_199, q122_202, q122_203, q122_204, q122_205, q122_208, q122_209, q122_212, q122_213, q122_216, q122_217, q122_218, q122_219, q122_222, q122_223, q122_226, q122_227, q122_230, q122_231, zpi, if_true, Option.bind_some, Option.toList_some, Option.toList_none, List.cons_append, List.nil_append, zB_go, zB_end, zB_no, zokv_i, zokv_r, zokv_n, eq_self]
       simp (decide := true) only [zjoin, if_true, if_false, zif_le, ite_self]
       done)
    | (have hy2 : ¬ y = 0 := hy
       simp only [e122, q122_0, q122_1, q122_120, q122_121, q122_122, q122_123, q122_124, q122_125, q122_126, q122_127, q122_128, q122_129, q122_130, q122_131, q122_132, q122_133, q122_136, q122_137, q122_140, q122_141, q122_142, q122_145, q122_146, q122_147, q122_150, q122_151, q122_152, q122_153, q122_154, q122_155, q122_158, q122_159, q122_160, q122_163, q122_164, q122_167, q122_168, q122_169, q122_170, q122_171, q122_172, q122_173, q122_176, q122_177, q122_180, q122_181, q122_182, q122_183, q122_184, q122_187, q122_188, q122_191, q122_192, q122_193, q122_194, q122_195, q122_198, q122_199, q122_202, q122_203, q122_204, q122_205, q122_208, q122_209, q122_212, q122_213, q122_216, q122_217, q122_218, q122_219, q122_222, q122_223, q122_226, q122_227, q122_230, q122_231, hy, hy2, not_false_eq_true, zpi, if_true, if_false, Option.bind_some, Option.toList_some, Option.toList_none, List.cons_append, List.nil_append, zB_go, zB_end, zB_no, zokv_i, zokv_r, zokv_n, eq_self]
       by_cases hm : y = -1
       · subst hm
         simp (decide := true) only [zjoin, if_true, if_false, zif_le, ite_self, zdiv_m1, zmod_m1]
         done
       · simp (decide := true) only [zjoin, if_true, if_false, zif_le, ite_self, hy, hm]
         done)
    | skip
  all_goals done
theorem c82 (hc : zsig c) : zCf zT znl (d + 1) 82 [.int c, .int x, .int y] h = some (some (.int (zjoin c x y)), h) := by
  rcases hc with rfl | rfl | rfl | rfl | rfl | rfl | rfl | rfl | rfl | rfl <;> by_cases hy : y = nI 0
  all_goals first
    | (subst hy
       simp only [e82, q82_0, q82_1, q82_92, q82_93, q82_96, q82_97, q82_100, q82_101, q82_104, q82_105, q82_106, q82_107, q82_110, q82_111, q82_114, q82_115, q82_118, q82_119, q82_120, q82_121, q82_122, q82_125, q82_126, q82_129, q82_130, q82_131, q82_132, q82_133, q82_136, q82_137, q82_140, q82_141, q82_142, q82_143, q82_144, q82_147, q82_148, q82_151, q82_152, q82_153, q82_154, q82_155, q82_156, q82_157, q82_158, q82_159, q82_160, q82_161, q82_162, q82_163, q82_164, q82_165, q82_166, q82_169, q82_170, q82_173, q82_174, q82_175, q82_176, q82_177, q82_178, q82_181, q82_182, q82_185, q82_186, q82_187, q82_188, q82_189, q82_190, zpi, if_true, Option.bind_some, Option.toList_some, Option.toList_none, List.cons_append, List.nil_append, zB_go, zB_end, zB_no, zokv_i, zokv_r, zokv_n, eq_self]
       simp (decide := true) only [zjoin, if_true, if_false, zif_le, ite_self]
       done)
    | (have hy2 : ¬ y = 0 := hy
       simp only [e82, q82_0, q82_1, q82_92, q82_93, q82_96, q82_97, q82_100, q82_101, q82_104, q82_105, q82_106, q82_107, q82_110, q82_111, q82_114, q82_115, q82_118, q82_119, q82_120, q82_121, q82_122, q82_125, q82_126, q82_129, q82_130, q82_131, q82_132, q82_133, q82_136, q82_137, q82_140, q82_141, q82_142, q82_143, q82_144, q82_147, q82_148, q82_151, q82_152, q82_153, q82_154, q82_155, q82_156, q82_157, q82_158, q82_159, q82_160, q82_161, q82_162, q82_163, q82_164, q82_165, q82_166, q82_169, q82_170, q82_173, q82_174, q82_175, q82_176, q82_177, q82_178, q82_181, q82_182, q82_185, q82_186, q82_187, q82_188, q82_189, q82_190, hy, hy2, not_false_eq_true, zpi, if_true, if_false, Option.bind_some, Option.toList_some, Option.toList_none, List.cons_append, List.nil_append, zB_go, zB_end, zB_no, zokv_i, zokv_r, zokv_n, eq_self]
       by_cases hm : y = -1
       · subst hm
         simp (decide := true) only [zjoin, if_true, if_false, zif_le, ite_self, zdiv_m1, zmod_m1]
         done
       · simp (decide := true) only [zjoin, if_true, if_false, zif_le, ite_self, hy, hm]
         done)
    | skip
  all_goals done
end JN
