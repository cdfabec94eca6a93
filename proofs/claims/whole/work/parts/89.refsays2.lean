/-! ===== voices: what the reference says ===== -/
section O89
variable (d : Nat) {h : zH} {K M P : Nat}
theorem mC0 {x : Int32} : zMd (d + 2) 185 [.ref 91, .int (nI 0), .int x] K M P (x + nI P) [10] := m185_0 d
theorem mC1 {x : Int32} : zMd (d + 3) 185 [.ref 91, .int (nI 1), .int x] K M P (x + nI P - nI 4) [20, 10] := m185_1 d (mC0 d)
theorem mC {k : Nat} {x : Int32} (hk : k < 7) : zMd (d + 4) 185 [.ref 91, .int (nI k), .int x] K M P (zvC M P k x) (ztC k) := by
  obtain rfl | rfl | rfl | rfl | rfl | rfl | rfl : k = 0 ∨ k = 1 ∨ k = 2 ∨ k = 3 ∨ k = 4 ∨ k = 5 ∨ k = 6 := by omega
  · exact mC0 (d + 2)
  · exact mC1 (d + 1)
  · exact m185_2 (d + 2) (mC1 d)
  · exact m185_3 (d + 1) (mC1 d)
  · exact m185_4 (d + 2)
  · exact m185_5 (d + 2) (mC0 (d + 1))
  · exact m185_6 (d + 1) (mC1 d)
theorem mG0 {x : Int32} (hK : K < 7) : zMd (d + 5) 186 [.ref 91, .int (nI 0), .int x] K M P (zvC M P K x * nI 2) (11 :: ztC K) := m186_0 (d + 2) (mC d hK)
theorem mG1 {x : Int32} (hK : K < 7) : zMd (d + 6) 186 [.ref 91, .int (nI 1), .int x] K M P (zvC M P K x * nI 2) (11 :: ztC K) := m186_1 (d + 4) (mG0 d hK)
theorem mG {k : Nat} {x : Int32} (hK : K < 7) (hk : k < 7) : zMd (d + 7) 186 [.ref 91, .int (nI k), .int x] K M P (zvG K M P k x) (ztG K k) := by
  obtain rfl | rfl | rfl | rfl | rfl | rfl | rfl : k = 0 ∨ k = 1 ∨ k = 2 ∨ k = 3 ∨ k = 4 ∨ k = 5 ∨ k = 6 := by omega
  · exact mG0 (d + 2) hK
  · exact mG1 (d + 1) hK
  · exact m186_2 (d + 4) (mG1 d hK)
  · exact m186_3 (d + 5) (mG1 d hK)
  · exact m186_4 (d + 5) (mG1 d hK)
  · exact m186_5 (d + 4) (mG0 (d + 1) hK)
  · exact m186_6 (d + 5) (mG1 d hK)
theorem mR0 {x : Int32} (hK : K < 7) : zMd (d + 8) 187 [.ref 91, .int (nI 0), .int x] K M P (zvG K M P K x - nI M) (12 :: ztG K K) := m187_0 (d + 5) (mG d hK hK)
theorem mR1 {x : Int32} (hK : K < 7) : zMd (d + 9) 187 [.ref 91, .int (nI 1), .int x] K M P (zvG K M P K x - nI M) (12 :: ztG K K) := m187_1 (d + 7) (mR0 d hK)
theorem mR {k : Nat} {x : Int32} (hK : K < 7) (hk : k < 7) : zMd (d + 10) 187 [.ref 91, .int (nI k), .int x] K M P (zvR K M P k x) (ztR K k) := by
  obtain rfl | rfl | rfl | rfl | rfl | rfl | rfl : k = 0 ∨ k = 1 ∨ k = 2 ∨ k = 3 ∨ k = 4 ∨ k = 5 ∨ k = 6 := by omega
  · exact mR0 (d + 2) hK
  · exact mR1 (d + 1) hK
  · exact m187_2 (d + 8) (mR1 d hK)
  · exact m187_3 (d + 7) (mR1 d hK)
  · exact m187_4 (d + 8) (mR1 d hK)
  · exact m187_5 (d + 7) (mR0 (d + 1) hK)
  · exact m187_6 (d + 8) (mR1 d hK)
theorem m188_0 {x : Int32} (hM : M < 1000) (hP : P < 1000) (ne : M ≠ P) : zMd (d + 3) 188 [.ref 91, .int (nI 0), .int x] K M P (x / (nI M - nI P)) [13] := fun h L c s z => by
  obtain ⟨h1, a1, s1, z1, f1⟩ := c181 (d + 1) (b := 13) s z
  have c1 := zMc_f c f1
  have k2 := fun d => c184 d c1
  have n0 : ¬ nI M - nI P = nI 0 := fun w => ne ((nI_eq (by omega) (by omega)).mp (by
    have := congrArg (· + nI P) w
    simp only [Int32.sub_add_cancel] at this
    exact this.trans (Int32.zero_add _)))
  have n0' : ¬ nI M - nI P = 0 := n0
  refine ⟨zup h1 91 17 (nI 0), ?_, ⟨by rw [zup_o (by decide)]; exact s1.1, fun i hi => by rw [zup_row_ne (by decide)]; exact s1.2 i hi⟩, zup_at, zMf_trans f1 ⟨fun a q1 q2 => zup_row_ne q1, fun j q1 q2 => zup_o q2⟩⟩
  by_cases m1 : nI M - nI P = -1
  · rw [m1, zdiv_m1]
    have nm : ¬ (-1 : Int32) = nI 0 := by decide
    simp only [e188, q188_0, q188_1, q188_2, q188_3, q188_36, q188_37, q188_39, q188_42, q188_43, q188_46, q188_47, q188_50, q188_51, q188_53, q188_54, q188_56, q188_63, q188_64, q188_67, q188_69, q188_76, q188_78, q188_79, q188_82, q188_83, q188_84, q188_91, a1, k2, gf_M16, c1.2.1, m1, nm, pf_M17_0, rc_M, zn1_0, if_true, if_false, ↓reduceIte, Option.bind_some, Option.toList_some, Option.toList_none, List.cons_append, List.nil_append, zB_go, zB_end, zB_no, zokv_i, zokv_r, zokv_n, eq_self]
  · simp only [e188, q188_0, q188_1, q188_2, q188_3, q188_36, q188_37, q188_39, q188_42, q188_43, q188_46, q188_47, q188_50, q188_51, q188_53, q188_54, q188_56, q188_63, q188_64, q188_67, q188_69, q188_76, q188_78, q188_79, q188_87, q188_88, q188_90, q188_91, a1, k2, gf_M16, c1.2.1, m1, n0, n0', not_false_eq_true, pf_M17_0, rc_M, zn1_0, if_true, if_false, ↓reduceIte, Option.bind_some, Option.toList_some, Option.toList_none, List.cons_append, List.nil_append, zB_go, zB_end, zB_no, zokv_i, zokv_r, zokv_n, eq_self]
theorem m188_p {x : Int32} : zMp (d + 3) 188 [.ref 91, .int (nI 0), .int x] K P P [13] := fun h L c s z => by
  obtain ⟨h1, a1, s1, z1, f1⟩ := c181 (d + 1) (b := 13) s z
  have c1 := zMc_f c f1
  have k2 := fun d => c184 d c1
  have n0 : nI P - nI P = nI 0 := Int32.sub_self _
  refine ⟨zup h1 91 17 (nI 1), nI 0, ?_, ⟨by rw [zup_o (by decide)]; exact s1.1, fun i hi => by rw [zup_row_ne (by decide)]; exact s1.2 i hi⟩, zup_at, zMf_trans f1 ⟨fun a q1 q2 => zup_row_ne q1, fun j q1 q2 => zup_o q2⟩⟩
  simp only [e188, q188_0, q188_1, q188_2, q188_3, q188_36, q188_37, q188_39, q188_42, q188_43, q188_46, q188_47, q188_50, q188_51, q188_53, q188_54, q188_56, q188_59, q188_60, q188_64, q188_67, q188_69, q188_72, q188_73, q188_91, a1, k2, gf_M16, c1.2.1, n0, pf_M17_1, rc_M, zn1_0, if_true, if_false, ↓reduceIte, Option.bind_some, Option.toList_some, Option.toList_none, List.cons_append, List.nil_append, zB_go, zB_end, zB_no, zokv_i, zokv_r, zokv_n, eq_self]
theorem m188_1 {x r r2 : Int32} {t t2 : List Nat} (W : zMd (d + 2) 188 [.ref 91, .int (nI 0), .int x] K M P r t) (W2 : zMd (d + 2) 186 [.ref 91, .int (nI K), .int (nI 1)] K M P r2 t2) : zMd (d + 3) 188 [.ref 91, .int (nI 1), .int x] K M P (r + r2) (21 :: (t ++ t2)) := fun h L c s z => by
  obtain ⟨h1, a1, s1, z1, f1⟩ := c181 (d + 1) (b := 21) s z
  have c1 := zMc_f c f1
  obtain ⟨h2, a2, s2, z2, f2⟩ := W h1 _ c1 s1 z1
  have c2 := zMc_f c1 f2
  have k1 := fun d => c183 d c2
  obtain ⟨h3, a3, s3, z3, f3⟩ := W2 h2 _ c2 s2 z2
  refine ⟨h3, ?_, zTM_app (by rw [← List.append_assoc]; exact s3), z3, zMf_trans f1 (zMf_trans f2 f3)⟩
  simp (decide := true) only [e188, q188_0, q188_1, q188_2, q188_3, q188_92, q188_93, q188_95, q188_98, q188_99, q188_100, q188_103, q188_104, q188_107, q188_108, q188_109, q188_112, q188_119, q188_120, q188_121, q188_122, q188_125, q188_126, q188_129, q188_130, a1, a2, a3, k1, z2, gf_M17, c182 _ (show 1 < 7 by decide), show zab2 1 = 0 from rfl, rc_M, zn1_0, if_true, if_false, ↓reduceIte, Option.bind_some, Option.toList_some, Option.toList_none, List.cons_append, List.nil_append, zB_go, zB_end, zB_no, zokv_i, zokv_r, zokv_n, eq_self]
theorem m188_p1 {x : Int32} {t : List Nat} (W : zMp (d + 2) 188 [.ref 91, .int (nI 0), .int x] K M P t) : zMp (d + 3) 188 [.ref 91, .int (nI 1), .int x] K M P (21 :: t) := fun h L c s z => by
  obtain ⟨h1, a1, s1, z1, f1⟩ := c181 (d + 1) (b := 21) s z
  have c1 := zMc_f c f1
  obtain ⟨h2, r, a2, s2, z2, f2⟩ := W h1 _ c1 s1 z1
  have nz : ¬ nI 1 = nI 0 := by decide
  refine ⟨h2, nI 0, ?_, zTM_app s2, z2, zMf_trans f1 f2⟩
  simp (decide := true) only [e188, q188_0, q188_1, q188_2, q188_3, q188_92, q188_93, q188_95, q188_98, q188_99, q188_100, q188_103, q188_104, q188_107, q188_108, q188_109, q188_112, q188_115, q188_116, q188_130, a1, a2, z2, gf_M17, nz, c182 _ (show 1 < 7 by decide), show zab2 1 = 0 from rfl, rc_M, zn1_0, if_true, if_false, ↓reduceIte, Option.bind_some, Option.toList_some, Option.toList_none, List.cons_append, List.nil_append, zB_go, zB_end, zB_no, zokv_i, zokv_r, zokv_n, eq_self]
theorem m188_6 {x r r2 : Int32} {t t2 : List Nat} (W : zMd (d + 2) 188 [.ref 91, .int (nI 1), .int x] K M P r t) (W2 : zMd (d + 2) 187 [.ref 91, .int (nI K), .int (nI 0)] K M P r2 t2) : zMd (d + 3) 188 [.ref 91, .int (nI 6), .int x] K M P (r - r2) (71 :: (t ++ t2)) := fun h L c s z => by
  obtain ⟨h1, a1, s1, z1, f1⟩ := c181 (d + 1) (b := 71) s z
  have c1 := zMc_f c f1
  obtain ⟨h2, a2, s2, z2, f2⟩ := W h1 _ c1 s1 z1
  have c2 := zMc_f c1 f2
  have k1 := fun d => c183 d c2
  obtain ⟨h3, a3, s3, z3, f3⟩ := W2 h2 _ c2 s2 z2
  refine ⟨h3, ?_, zTM_app (by rw [← List.append_assoc]; exact s3), z3, zMf_trans f1 (zMf_trans f2 f3)⟩
  simp (decide := true) only [e188, q188_0, q188_1, q188_2, q188_3, q188_131, q188_132, q188_134, q188_137, q188_138, q188_140, q188_143, q188_144, q188_147, q188_148, q188_149, q188_152, q188_159, q188_160, q188_161, q188_162, q188_165, q188_166, q188_169, q188_170, a1, a2, a3, k1, z2, gf_M17, c182 _ (show 6 < 7 by decide), show zab2 6 = 1 from rfl, rc_M, zn1_0, if_true, if_false, ↓reduceIte, Option.bind_some, Option.toList_some, Option.toList_none, List.cons_append, List.nil_append, zB_go, zB_end, zB_no, zokv_i, zokv_r, zokv_n, eq_self]
theorem m188_p6 {x : Int32} {t : List Nat} (W : zMp (d + 2) 188 [.ref 91, .int (nI 1), .int x] K M P t) : zMp (d + 3) 188 [.ref 91, .int (nI 6), .int x] K M P (71 :: t) := fun h L c s z => by
  obtain ⟨h1, a1, s1, z1, f1⟩ := c181 (d + 1) (b := 71) s z
  have c1 := zMc_f c f1
  obtain ⟨h2, r, a2, s2, z2, f2⟩ := W h1 _ c1 s1 z1
  have nz : ¬ nI 1 = nI 0 := by decide
  refine ⟨h2, nI 0, ?_, zTM_app s2, z2, zMf_trans f1 f2⟩
  simp (decide := true) only [e188, q188_0, q188_1, q188_2, q188_3, q188_131, q188_132, q188_134, q188_137, q188_138, q188_140, q188_143, q188_144, q188_147, q188_148, q188_149, q188_152, q188_155, q188_156, q188_170, a1, a2, z2, gf_M17, nz, c182 _ (show 6 < 7 by decide), show zab2 6 = 1 from rfl, rc_M, zn1_0, if_true, if_false, ↓reduceIte, Option.bind_some, Option.toList_some, Option.toList_none, List.cons_append, List.nil_append, zB_go, zB_end, zB_no, zokv_i, zokv_r, zokv_n, eq_self]
theorem m188_2 {x r : Int32} {t : List Nat} (W : zMd (d + 1) 188 [.ref 91, .int (nI 1), .int x] K M P r t) : zMd (d + 2) 188 [.ref 91, .int (nI 2), .int x] K M P r t := fun h L c s z => by
  obtain ⟨h2, a2, s2⟩ := W h L c s z
  refine ⟨h2, ?_, s2⟩
  simp (decide := true) only [e188, q188_0, q188_1, q188_2, q188_3, q188_171, q188_172, q188_173, q188_176, q188_177, q188_180, c182 _ (show 2 < 7 by decide), show zab2 2 = 1 from rfl, a2, rc_M, zn1_0, if_true, if_false, ↓reduceIte, Option.bind_some, Option.toList_some, Option.toList_none, List.cons_append, List.nil_append, zB_go, zB_end, zB_no, zokv_i, zokv_r, zokv_n, eq_self]
theorem m188_p2 {x : Int32} {t : List Nat} (W : zMp (d + 1) 188 [.ref 91, .int (nI 1), .int x] K M P t) : zMp (d + 2) 188 [.ref 91, .int (nI 2), .int x] K M P t := fun h L c s z => by
  obtain ⟨h2, r, a2, s2⟩ := W h L c s z
  refine ⟨h2, r, ?_, s2⟩
  simp (decide := true) only [e188, q188_0, q188_1, q188_2, q188_3, q188_171, q188_172, q188_173, q188_176, q188_177, q188_180, c182 _ (show 2 < 7 by decide), show zab2 2 = 1 from rfl, a2, rc_M, zn1_0, if_true, if_false, ↓reduceIte, Option.bind_some, Option.toList_some, Option.toList_none, List.cons_append, List.nil_append, zB_go, zB_end, zB_no, zokv_i, zokv_r, zokv_n, eq_self]
theorem m188_3 {x r : Int32} {t : List Nat} (W : zMd (d + 1) 188 [.ref 91, .int (nI 1), .int x] K M P r t) : zMd (d + 2) 188 [.ref 91, .int (nI 3), .int x] K M P r t := fun h L c s z => by
  obtain ⟨h2, a2, s2⟩ := W h L c s z
  refine ⟨h2, ?_, s2⟩
  simp (decide := true) only [e188, q188_0, q188_1, q188_2, q188_3, q188_171, q188_172, q188_173, q188_176, q188_177, q188_180, c182 _ (show 3 < 7 by decide), show zab2 3 = 1 from rfl, a2, rc_M, zn1_0, if_true, if_false, ↓reduceIte, Option.bind_some, Option.toList_some, Option.toList_none, List.cons_append, List.nil_append, zB_go, zB_end, zB_no, zokv_i, zokv_r, zokv_n, eq_self]
theorem m188_p3 {x : Int32} {t : List Nat} (W : zMp (d + 1) 188 [.ref 91, .int (nI 1), .int x] K M P t) : zMp (d + 2) 188 [.ref 91, .int (nI 3), .int x] K M P t := fun h L c s z => by
  obtain ⟨h2, r, a2, s2⟩ := W h L c s z
  refine ⟨h2, r, ?_, s2⟩
  simp (decide := true) only [e188, q188_0, q188_1, q188_2, q188_3, q188_171, q188_172, q188_173, q188_176, q188_177, q188_180, c182 _ (show 3 < 7 by decide), show zab2 3 = 1 from rfl, a2, rc_M, zn1_0, if_true, if_false, ↓reduceIte, Option.bind_some, Option.toList_some, Option.toList_none, List.cons_append, List.nil_append, zB_go, zB_end, zB_no, zokv_i, zokv_r, zokv_n, eq_self]
theorem m188_4 {x r : Int32} {t : List Nat} (W : zMd (d + 1) 188 [.ref 91, .int (nI 1), .int x] K M P r t) : zMd (d + 2) 188 [.ref 91, .int (nI 4), .int x] K M P r t := fun h L c s z => by
  obtain ⟨h2, a2, s2⟩ := W h L c s z
  refine ⟨h2, ?_, s2⟩
  simp (decide := true) only [e188, q188_0, q188_1, q188_2, q188_3, q188_171, q188_172, q188_173, q188_176, q188_177, q188_180, c182 _ (show 4 < 7 by decide), show zab2 4 = 1 from rfl, a2, rc_M, zn1_0, if_true, if_false, ↓reduceIte, Option.bind_some, Option.toList_some, Option.toList_none, List.cons_append, List.nil_append, zB_go, zB_end, zB_no, zokv_i, zokv_r, zokv_n, eq_self]
theorem m188_p4 {x : Int32} {t : List Nat} (W : zMp (d + 1) 188 [.ref 91, .int (nI 1), .int x] K M P t) : zMp (d + 2) 188 [.ref 91, .int (nI 4), .int x] K M P t := fun h L c s z => by
  obtain ⟨h2, r, a2, s2⟩ := W h L c s z
  refine ⟨h2, r, ?_, s2⟩
  simp (decide := true) only [e188, q188_0, q188_1, q188_2, q188_3, q188_171, q188_172, q188_173, q188_176, q188_177, q188_180, c182 _ (show 4 < 7 by decide), show zab2 4 = 1 from rfl, a2, rc_M, zn1_0, if_true, if_false, ↓reduceIte, Option.bind_some, Option.toList_some, Option.toList_none, List.cons_append, List.nil_append, zB_go, zB_end, zB_no, zokv_i, zokv_r, zokv_n, eq_self]
theorem m188_5 {x r : Int32} {t : List Nat} (W : zMd (d + 1) 188 [.ref 91, .int (nI 0), .int x] K M P r t) : zMd (d + 2) 188 [.ref 91, .int (nI 5), .int x] K M P r t := fun h L c s z => by
  obtain ⟨h2, a2, s2⟩ := W h L c s z
  refine ⟨h2, ?_, s2⟩
  simp (decide := true) only [e188, q188_0, q188_1, q188_2, q188_3, q188_171, q188_172, q188_173, q188_176, q188_177, q188_180, c182 _ (show 5 < 7 by decide), show zab2 5 = 0 from rfl, a2, rc_M, zn1_0, if_true, if_false, ↓reduceIte, Option.bind_some, Option.toList_some, Option.toList_none, List.cons_append, List.nil_append, zB_go, zB_end, zB_no, zokv_i, zokv_r, zokv_n, eq_self]
theorem m188_p5 {x : Int32} {t : List Nat} (W : zMp (d + 1) 188 [.ref 91, .int (nI 0), .int x] K M P t) : zMp (d + 2) 188 [.ref 91, .int (nI 5), .int x] K M P t := fun h L c s z => by
  obtain ⟨h2, r, a2, s2⟩ := W h L c s z
  refine ⟨h2, r, ?_, s2⟩
  simp (decide := true) only [e188, q188_0, q188_1, q188_2, q188_3, q188_171, q188_172, q188_173, q188_176, q188_177, q188_180, c182 _ (show 5 < 7 by decide), show zab2 5 = 0 from rfl, a2, rc_M, zn1_0, if_true, if_false, ↓reduceIte, Option.bind_some, Option.toList_some, Option.toList_none, List.cons_append, List.nil_append, zB_go, zB_end, zB_no, zokv_i, zokv_r, zokv_n, eq_self]
theorem mP1 {x : Int32} (hK : K < 7) (hM : M < 1000) (hP : P < 1000) (ne : M ≠ P) : zMd (d + 8) 188 [.ref 91, .int (nI 1), .int x] K M P (x / (nI M - nI P) + zvG K M P K (nI 1)) (21 :: ([13] ++ ztG K K)) := m188_1 (d + 5) (m188_0 (d + 4) hM hP ne) (mG d hK hK)
theorem mP {k : Nat} {x : Int32} (hK : K < 7) (hM : M < 1000) (hP : P < 1000) (ne : M ≠ P) (hk : k < 7) : zMd (d + 11) 188 [.ref 91, .int (nI k), .int x] K M P (zvP K M P k x) (ztP K k) := by
  obtain rfl | rfl | rfl | rfl | rfl | rfl | rfl : k = 0 ∨ k = 1 ∨ k = 2 ∨ k = 3 ∨ k = 4 ∨ k = 5 ∨ k = 6 := by omega
  · exact m188_0 (d + 8) hM hP ne
  · exact mP1 (d + 3) hK hM hP ne
  · exact m188_2 (d + 9) (mP1 (d + 2) hK hM hP ne)
  · exact m188_3 (d + 9) (mP1 (d + 2) hK hM hP ne)
  · exact m188_4 (d + 9) (mP1 (d + 2) hK hM hP ne)
  · exact m188_5 (d + 9) (m188_0 (d + 7) hM hP ne)
  · exact m188_6 (d + 8) (mP1 (d + 2) hK hM hP ne) (mR d hK hK)
theorem mQ1 {x : Int32} : zMp (d + 4) 188 [.ref 91, .int (nI 1), .int x] K P P [21, 13] := m188_p1 (d + 1) (m188_p d)
theorem mQ {k : Nat} {x : Int32} (hk : k < 7) : zMp (d + 11) 188 [.ref 91, .int (nI k), .int x] K P P (ztPp k) := by
  obtain rfl | rfl | rfl | rfl | rfl | rfl | rfl : k = 0 ∨ k = 1 ∨ k = 2 ∨ k = 3 ∨ k = 4 ∨ k = 5 ∨ k = 6 := by omega
  · exact m188_p (d + 8)
  · exact mQ1 (d + 7)
  · exact m188_p2 (d + 9) (mQ1 (d + 6))
  · exact m188_p3 (d + 9) (mQ1 (d + 6))
  · exact m188_p4 (d + 9) (mQ1 (d + 6))
  · exact m188_p5 (d + 9) (m188_p (d + 7))
  · exact m188_p6 (d + 8) (mQ1 (d + 6))
end O89
