/-! ===== voices: the reference says them ===== -/
def zTM (h : zH) (L : List Nat) : Prop := h 91 15 = nI (min L.length 30) ∧ ∀ i, i < min L.length 30 → h 101 i = nI (L.getD i 0)
def zMc (h : zH) (K M P : Nat) : Prop := P < 8 ∧ h 91 16 = nI P ∧ h 92 (90 + 8 * P + 0) = nI K ∧ h 92 (90 + 8 * P + 1) = nI M
def zMf (h h' : zH) : Prop := (∀ a, a ≠ 91 → a ≠ 101 → h' a = h a) ∧ ∀ j, j ≠ 15 → j ≠ 17 → h' 91 j = h 91 j
theorem zMf_trans {a b c : zH} (x : zMf a b) (y : zMf b c) : zMf a c := ⟨fun i h1 h2 => (y.1 i h1 h2).trans (x.1 i h1 h2), fun j h1 h2 => (y.2 j h1 h2).trans (x.2 j h1 h2)⟩
theorem zMc_f {h h' : zH} {K M P : Nat} (c : zMc h K M P) (f : zMf h h') : zMc h' K M P := ⟨c.1, by rw [f.2 16 (by decide) (by decide)]; exact c.2.1, by rw [f.1 92 (by decide) (by decide)]; exact c.2.2.1, by rw [f.1 92 (by decide) (by decide)]; exact c.2.2.2⟩
def zMd (D k : Nat) (as : List Value) (K M P : Nat) (v : Int32) (t : List Nat) : Prop := ∀ (h : zH) (L : List Nat), zMc h K M P → zTM h L → h 91 17 = nI 0 → ∃ h', zCf zT znl D k as h = some (some (.int v), h') ∧ zTM h' (L ++ t) ∧ h' 91 17 = nI 0 ∧ zMf h h'
def zMp (D k : Nat) (as : List Value) (K M P : Nat) (t : List Nat) : Prop := ∀ (h : zH) (L : List Nat), zMc h K M P → zTM h L → h 91 17 = nI 0 → ∃ h' v, zCf zT znl D k as h = some (some (.int v), h') ∧ zTM h' (L ++ t) ∧ h' 91 17 = nI 1 ∧ zMf h h'
theorem zTM_app {h : zH} {L t : List Nat} {b : Nat} (c : zTM h (L ++ [b] ++ t)) : zTM h (L ++ b :: t) := by
  rw [List.append_assoc] at c; exact c
section O88
variable (d : Nat) {h : zH} {K M P : Nat}
theorem c181 {b : Nat} {L : List Nat} (c : zTM h L) (z : h 91 17 = nI 0) : ∃ h', zCf zT znl (d + 1) 181 [.ref 91, .int (nI b)] h = some (none, h') ∧ zTM h' (L ++ [b]) ∧ h' 91 17 = nI 0 ∧ zMf h h' := by
  obtain ⟨c1, c2⟩ := c
  by_cases q : L.length < 30
  · have mi : min L.length 30 = L.length := by omega
    rw [mi] at c1 c2
    have le : ¬ nI 30 ≤ nI L.length := nI_ge q (by decide)
    have n1 : ∀ v, zup h 101 L.length v 91 = h 91 := fun v => zup_row_ne (by decide)
    refine ⟨zup (zup h 101 L.length (nI b)) 91 15 (nI (L.length + 1)), ?_, ⟨?_, fun i hi => ?_⟩, ?_, fun a h1 h2 => by rw [zup_row_ne h1, zup_row_ne h2], fun j h1 _ => by rw [zup_o h1, n1]⟩
    · simp only [e181, q181_0, q181_1, q181_4, q181_6, q181_9, q181_10, q181_13, q181_14, q181_17, q181_18, q181_19, q181_20i, q181_20r, q181_21, q181_24, q181_25, q181_26, q181_29, gf_M14, gf_M15, pf_M15, c1, le, n1, ast_n101 q, nI_add, zn1_0, if_true, if_false, ↓reduceIte, Option.bind_some, Option.toList_some, Option.toList_none, List.cons_append, List.nil_append, zB_go, zB_end, zB_no, zokv_i, zokv_r, zokv_n, eq_self]
    · rw [zup_at, List.length_append]
      congr 1
      show L.length + 1 = min (L.length + 1) 30
      omega
    · rw [List.length_append] at hi
      have hi' : i < L.length + 1 := by
        have : [b].length = 1 := rfl
        omega
      rw [zup_row_ne (by decide)]
      by_cases y : i = L.length
      · subst y
        rw [zup_at, List.getD_eq_getElem?_getD, List.getElem?_append_right (Nat.le_refl _), Nat.sub_self]
        rfl
      · rw [zup_o y, c2 i (by omega), List.getD_eq_getElem?_getD, List.getD_eq_getElem?_getD, List.getElem?_append_left (by omega)]
    · rw [zup_o (by decide), n1]; exact z
  · have mi : min L.length 30 = 30 := by omega
    rw [mi] at c1 c2
    have le : nI 30 ≤ nI 30 := Int32.le_refl _
    refine ⟨h, ?_, ⟨?_, fun i hi => ?_⟩, z, fun _ _ _ => rfl, fun _ _ _ => rfl⟩
    · simp only [e181, q181_0, q181_1, q181_4, q181_6, q181_9, q181_10, q181_13, q181_14, q181_17, q181_18, q181_19, q181_20i, q181_20r, q181_21, q181_24, q181_25, q181_26, q181_29, gf_M15, c1, le, zn1_0, if_true, if_false, ↓reduceIte, Option.bind_some, Option.toList_some, Option.toList_none, List.cons_append, List.nil_append, zB_go, zB_end, zB_no, zokv_i, zokv_r, zokv_n, eq_self]
    · rw [c1, List.length_append]
      congr 1
      omega
    · have hi' : i < 30 := by omega
      rw [c2 i hi', List.getD_eq_getElem?_getD, List.getD_eq_getElem?_getD, List.getElem?_append_left (by omega)]
def zab2 (k : Nat) : Nat := if k = 1 ∨ k = 5 then 0 else 1
theorem c182 {k : Nat} (hk : k < 7) (h : zH) : zCf zT znl (d + 1) 182 [.int (nI k)] h = some (some (.int (nI (zab2 k))), h) := by
  obtain rfl | rfl | rfl | rfl | rfl | rfl | rfl : k = 0 ∨ k = 1 ∨ k = 2 ∨ k = 3 ∨ k = 4 ∨ k = 5 ∨ k = 6 := by omega
  all_goals simp (decide := true) only [e182, q182_0, q182_1, q182_2, q182_5, q182_6, q182_7, q182_10, q182_11, q182_14, q182_15, zab2, zn1_0, if_true, if_false, ↓reduceIte, Option.bind_some, Option.toList_some, Option.toList_none, List.cons_append, List.nil_append, zB_go, zB_end, zB_no, zokv_i, zokv_r, zokv_n, eq_self]
theorem c183 (c : zMc h K M P) : zCf zT znl (d + 2) 183 [.ref 91] h = some (some (.int (nI K)), h) := by
  have i0 := fun d => c112 d h c.1 (show 0 < 8 by decide)
  simp only [e183, q183_0, q183_1, q183_2, q183_5, q183_6, q183_9, gf_M16, c.2.1, i0, c.2.2.1, rc_M, Option.bind_some, Option.toList_some, Option.toList_none, List.cons_append, List.nil_append, zB_go, zB_end, zB_no, zokv_i, zokv_r, zokv_n, eq_self]
theorem c184 (c : zMc h K M P) : zCf zT znl (d + 2) 184 [.ref 91] h = some (some (.int (nI M)), h) := by
  have i1 := fun d => c112 d h c.1 (show 1 < 8 by decide)
  simp only [e184, q184_0, q184_1, q184_2, q184_5, q184_6, q184_9, gf_M16, c.2.1, i1, c.2.2.2, rc_M, Option.bind_some, Option.toList_some, Option.toList_none, List.cons_append, List.nil_append, zB_go, zB_end, zB_no, zokv_i, zokv_r, zokv_n, eq_self]
theorem m185_0 {x : Int32} : zMd (d + 2) 185 [.ref 91, .int (nI 0), .int x] K M P (x + nI P) [10] := fun h L c s z => by
  obtain ⟨h1, a1, s1, z1, f1⟩ := c181 d (b := 10) s z
  have c1 := zMc_f c f1
  refine ⟨h1, ?_, s1, z1, f1⟩
  simp only [e185, q185_0, q185_1, q185_44, q185_45, q185_47, q185_50, q185_51, q185_52, q185_55, q185_56, a1, gf_M16, c1.2.1, rc_M, zn1_0, if_true, if_false, ↓reduceIte, Option.bind_some, Option.toList_some, Option.toList_none, List.cons_append, List.nil_append, zB_go, zB_end, zB_no, zokv_i, zokv_r, zokv_n, eq_self]
theorem m185_4 {x : Int32} : zMd (d + 2) 185 [.ref 91, .int (nI 4), .int x] K M P (nI 8) [50] := fun h L c s z => by
  obtain ⟨h1, a1, s1, z1, f1⟩ := c181 d (b := 50) s z
  refine ⟨h1, ?_, s1, z1, f1⟩
  simp (decide := true) only [e185, q185_0, q185_1, q185_96, q185_97, q185_99, q185_102, q185_104, a1, rc_M, zn1_0, if_true, if_false, ↓reduceIte, Option.bind_some, Option.toList_some, Option.toList_none, List.cons_append, List.nil_append, zB_go, zB_end, zB_no, zokv_i, zokv_r, zokv_n, eq_self]
theorem m185_1 {x r : Int32} {t : List Nat} (W : zMd (d + 2) 185 [.ref 91, .int (nI 0), .int x] K M P r t) : zMd (d + 3) 185 [.ref 91, .int (nI 1), .int x] K M P (r - nI 4) (20 :: t) := fun h L c s z => by
  obtain ⟨h1, a1, s1, z1, f1⟩ := c181 (d + 1) (b := 20) s z
  have c1 := zMc_f c f1
  obtain ⟨h2, a2, s2, z2, f2⟩ := W h1 _ c1 s1 z1
  have c2 := zMc_f c1 f2
  have k1 := fun d => c183 d c1
  have k2 := fun d => c184 d c2
  refine ⟨h2, ?_, zTM_app s2, z2, zMf_trans f1 f2⟩
  simp (decide := true) only [e185, q185_0, q185_1, q185_57, q185_58, q185_60, q185_63, q185_64, q185_65, q185_68, q185_69, q185_72, q185_73, q185_74, a1, a2, c182 _ (show 1 < 7 by decide), show zab2 1 = 0 from rfl, rc_M, zn1_0, if_true, if_false, ↓reduceIte, Option.bind_some, Option.toList_some, Option.toList_none, List.cons_append, List.nil_append, zB_go, zB_end, zB_no, zokv_i, zokv_r, zokv_n, eq_self]
theorem m185_3 {x r : Int32} {t : List Nat} (W : zMd (d + 2) 185 [.ref 91, .int (nI 1), .int x] K M P r t) : zMd (d + 3) 185 [.ref 91, .int (nI 3), .int x] K M P (r ^^^ nI P) (41 :: t) := fun h L c s z => by
  obtain ⟨h1, a1, s1, z1, f1⟩ := c181 (d + 1) (b := 41) s z
  have c1 := zMc_f c f1
  obtain ⟨h2, a2, s2, z2, f2⟩ := W h1 _ c1 s1 z1
  have c2 := zMc_f c1 f2
  have k1 := fun d => c183 d c1
  have k2 := fun d => c184 d c2
  refine ⟨h2, ?_, zTM_app s2, z2, zMf_trans f1 f2⟩
  simp (decide := true) only [e185, q185_0, q185_1, q185_75, q185_76, q185_78, q185_81, q185_82, q185_83, q185_86, q185_87, q185_90, q185_91, q185_94, q185_95, a1, a2, c182 _ (show 3 < 7 by decide), show zab2 3 = 1 from rfl, gf_M16, c2.2.1, rc_M, zn1_0, if_true, if_false, ↓reduceIte, Option.bind_some, Option.toList_some, Option.toList_none, List.cons_append, List.nil_append, zB_go, zB_end, zB_no, zokv_i, zokv_r, zokv_n, eq_self]
theorem m185_6 {x r : Int32} {t : List Nat} (W : zMd (d + 2) 185 [.ref 91, .int (nI 1), .int x] K M P r t) : zMd (d + 3) 185 [.ref 91, .int (nI 6), .int x] K M P (r + nI M) (70 :: t) := fun h L c s z => by
  obtain ⟨h1, a1, s1, z1, f1⟩ := c181 (d + 1) (b := 70) s z
  have c1 := zMc_f c f1
  obtain ⟨h2, a2, s2, z2, f2⟩ := W h1 _ c1 s1 z1
  have c2 := zMc_f c1 f2
  have k1 := fun d => c183 d c1
  have k2 := fun d => c184 d c2
  refine ⟨h2, ?_, zTM_app s2, z2, zMf_trans f1 f2⟩
  simp (decide := true) only [e185, q185_0, q185_1, q185_105, q185_106, q185_108, q185_111, q185_112, q185_114, q185_117, q185_118, q185_121, q185_122, q185_125, q185_126, a1, a2, c182 _ (show 6 < 7 by decide), show zab2 6 = 1 from rfl, k2, rc_M, zn1_0, if_true, if_false, ↓reduceIte, Option.bind_some, Option.toList_some, Option.toList_none, List.cons_append, List.nil_append, zB_go, zB_end, zB_no, zokv_i, zokv_r, zokv_n, eq_self]
theorem m185_2 {x r : Int32} {t : List Nat} (W : zMd (d + 1) 185 [.ref 91, .int (nI (zab2 2)), .int x] K M P r t) : zMd (d + 2) 185 [.ref 91, .int (nI 2), .int x] K M P r t := fun h L c s z => by
  obtain ⟨h2, a2, s2⟩ := W h L c s z
  have e := fun d => c182 d (show 2 < 7 by decide) h
  refine ⟨h2, ?_, s2⟩
  simp (decide := true) only [e185, q185_0, q185_1, q185_127, q185_128, q185_129, q185_132, q185_133, q185_136, e, a2, rc_M, zn1_0, if_true, if_false, ↓reduceIte, Option.bind_some, Option.toList_some, Option.toList_none, List.cons_append, List.nil_append, zB_go, zB_end, zB_no, zokv_i, zokv_r, zokv_n, eq_self]
theorem m185_5 {x r : Int32} {t : List Nat} (W : zMd (d + 1) 185 [.ref 91, .int (nI (zab2 5)), .int x] K M P r t) : zMd (d + 2) 185 [.ref 91, .int (nI 5), .int x] K M P r t := fun h L c s z => by
  obtain ⟨h2, a2, s2⟩ := W h L c s z
  have e := fun d => c182 d (show 5 < 7 by decide) h
  refine ⟨h2, ?_, s2⟩
  simp (decide := true) only [e185, q185_0, q185_1, q185_127, q185_128, q185_129, q185_132, q185_133, q185_136, e, a2, rc_M, zn1_0, if_true, if_false, ↓reduceIte, Option.bind_some, Option.toList_some, Option.toList_none, List.cons_append, List.nil_append, zB_go, zB_end, zB_no, zokv_i, zokv_r, zokv_n, eq_self]
theorem m186_0 {x r : Int32} {t : List Nat} (W : zMd (d + 2) 185 [.ref 91, .int (nI K), .int x] K M P r t) : zMd (d + 3) 186 [.ref 91, .int (nI 0), .int x] K M P (r * nI 2) (11 :: t) := fun h L c s z => by
  obtain ⟨h1, a1, s1, z1, f1⟩ := c181 (d + 1) (b := 11) s z
  have c1 := zMc_f c f1
  obtain ⟨h2, a2, s2, z2, f2⟩ := W h1 _ c1 s1 z1
  have c2 := zMc_f c1 f2
  have k1 := fun d => c183 d c1
  have k2 := fun d => c184 d c2
  refine ⟨h2, ?_, zTM_app s2, z2, zMf_trans f1 f2⟩
  simp (decide := true) only [e186, q186_0, q186_1, q186_36, q186_37, q186_39, q186_42, q186_43, q186_44, q186_47, q186_48, q186_51, q186_52, q186_53, a1, a2, k1, rc_M, zn1_0, if_true, if_false, ↓reduceIte, Option.bind_some, Option.toList_some, Option.toList_none, List.cons_append, List.nil_append, zB_go, zB_end, zB_no, zokv_i, zokv_r, zokv_n, eq_self]
theorem m186_2 {x r : Int32} {t : List Nat} (W : zMd (d + 2) 186 [.ref 91, .int (nI 1), .int x] K M P r t) : zMd (d + 3) 186 [.ref 91, .int (nI 2), .int x] K M P (nI 0 - r) (30 :: t) := fun h L c s z => by
  obtain ⟨h1, a1, s1, z1, f1⟩ := c181 (d + 1) (b := 30) s z
  have c1 := zMc_f c f1
  obtain ⟨h2, a2, s2, z2, f2⟩ := W h1 _ c1 s1 z1
  have c2 := zMc_f c1 f2
  have k1 := fun d => c183 d c1
  have k2 := fun d => c184 d c2
  refine ⟨h2, ?_, zTM_app s2, z2, zMf_trans f1 f2⟩
  simp (decide := true) only [e186, q186_0, q186_1, q186_54, q186_55, q186_57, q186_60, q186_61, q186_62, q186_63, q186_66, q186_67, q186_70, q186_71, a1, a2, c182 _ (show 2 < 7 by decide), show zab2 2 = 1 from rfl, rc_M, zn1_0, if_true, if_false, ↓reduceIte, Option.bind_some, Option.toList_some, Option.toList_none, List.cons_append, List.nil_append, zB_go, zB_end, zB_no, zokv_i, zokv_r, zokv_n, eq_self]
theorem m186_5 {x r : Int32} {t : List Nat} (W : zMd (d + 2) 186 [.ref 91, .int (nI 0), .int (x + nI 1)] K M P r t) : zMd (d + 3) 186 [.ref 91, .int (nI 5), .int x] K M P (r) (60 :: t) := fun h L c s z => by
  obtain ⟨h1, a1, s1, z1, f1⟩ := c181 (d + 1) (b := 60) s z
  have c1 := zMc_f c f1
  obtain ⟨h2, a2, s2, z2, f2⟩ := W h1 _ c1 s1 z1
  have c2 := zMc_f c1 f2
  have k1 := fun d => c183 d c1
  have k2 := fun d => c184 d c2
  refine ⟨h2, ?_, zTM_app s2, z2, zMf_trans f1 f2⟩
  simp (decide := true) only [e186, q186_0, q186_1, q186_72, q186_73, q186_75, q186_78, q186_79, q186_80, q186_83, q186_84, q186_85, q186_86, q186_89, a1, a2, c182 _ (show 5 < 7 by decide), show zab2 5 = 0 from rfl, rc_M, zn1_0, if_true, if_false, ↓reduceIte, Option.bind_some, Option.toList_some, Option.toList_none, List.cons_append, List.nil_append, zB_go, zB_end, zB_no, zokv_i, zokv_r, zokv_n, eq_self]
theorem m186_1 {x r : Int32} {t : List Nat} (W : zMd (d + 1) 186 [.ref 91, .int (nI (zab2 1)), .int x] K M P r t) : zMd (d + 2) 186 [.ref 91, .int (nI 1), .int x] K M P r t := fun h L c s z => by
  obtain ⟨h2, a2, s2⟩ := W h L c s z
  have e := fun d => c182 d (show 1 < 7 by decide) h
  refine ⟨h2, ?_, s2⟩
  simp (decide := true) only [e186, q186_0, q186_1, q186_90, q186_91, q186_92, q186_95, q186_96, q186_99, e, a2, rc_M, zn1_0, if_true, if_false, ↓reduceIte, Option.bind_some, Option.toList_some, Option.toList_none, List.cons_append, List.nil_append, zB_go, zB_end, zB_no, zokv_i, zokv_r, zokv_n, eq_self]
theorem m186_3 {x r : Int32} {t : List Nat} (W : zMd (d + 1) 186 [.ref 91, .int (nI (zab2 3)), .int x] K M P r t) : zMd (d + 2) 186 [.ref 91, .int (nI 3), .int x] K M P r t := fun h L c s z => by
  obtain ⟨h2, a2, s2⟩ := W h L c s z
  have e := fun d => c182 d (show 3 < 7 by decide) h
  refine ⟨h2, ?_, s2⟩
  simp (decide := true) only [e186, q186_0, q186_1, q186_90, q186_91, q186_92, q186_95, q186_96, q186_99, e, a2, rc_M, zn1_0, if_true, if_false, ↓reduceIte, Option.bind_some, Option.toList_some, Option.toList_none, List.cons_append, List.nil_append, zB_go, zB_end, zB_no, zokv_i, zokv_r, zokv_n, eq_self]
theorem m186_4 {x r : Int32} {t : List Nat} (W : zMd (d + 1) 186 [.ref 91, .int (nI (zab2 4)), .int x] K M P r t) : zMd (d + 2) 186 [.ref 91, .int (nI 4), .int x] K M P r t := fun h L c s z => by
  obtain ⟨h2, a2, s2⟩ := W h L c s z
  have e := fun d => c182 d (show 4 < 7 by decide) h
  refine ⟨h2, ?_, s2⟩
  simp (decide := true) only [e186, q186_0, q186_1, q186_90, q186_91, q186_92, q186_95, q186_96, q186_99, e, a2, rc_M, zn1_0, if_true, if_false, ↓reduceIte, Option.bind_some, Option.toList_some, Option.toList_none, List.cons_append, List.nil_append, zB_go, zB_end, zB_no, zokv_i, zokv_r, zokv_n, eq_self]
theorem m186_6 {x r : Int32} {t : List Nat} (W : zMd (d + 1) 186 [.ref 91, .int (nI (zab2 6)), .int x] K M P r t) : zMd (d + 2) 186 [.ref 91, .int (nI 6), .int x] K M P r t := fun h L c s z => by
  obtain ⟨h2, a2, s2⟩ := W h L c s z
  have e := fun d => c182 d (show 6 < 7 by decide) h
  refine ⟨h2, ?_, s2⟩
  simp (decide := true) only [e186, q186_0, q186_1, q186_90, q186_91, q186_92, q186_95, q186_96, q186_99, e, a2, rc_M, zn1_0, if_true, if_false, ↓reduceIte, Option.bind_some, Option.toList_some, Option.toList_none, List.cons_append, List.nil_append, zB_go, zB_end, zB_no, zokv_i, zokv_r, zokv_n, eq_self]
theorem m187_0 {x r : Int32} {t : List Nat} (W : zMd (d + 2) 186 [.ref 91, .int (nI K), .int x] K M P r t) : zMd (d + 3) 187 [.ref 91, .int (nI 0), .int x] K M P (r - nI M) (12 :: t) := fun h L c s z => by
  obtain ⟨h1, a1, s1, z1, f1⟩ := c181 (d + 1) (b := 12) s z
  have c1 := zMc_f c f1
  obtain ⟨h2, a2, s2, z2, f2⟩ := W h1 _ c1 s1 z1
  have c2 := zMc_f c1 f2
  have k1 := fun d => c183 d c1
  have k2 := fun d => c184 d c2
  refine ⟨h2, ?_, zTM_app s2, z2, zMf_trans f1 f2⟩
  simp (decide := true) only [e187, q187_0, q187_1, q187_36, q187_37, q187_39, q187_42, q187_43, q187_44, q187_47, q187_48, q187_51, q187_52, q187_55, q187_56, a1, a2, k1, k2, rc_M, zn1_0, if_true, if_false, ↓reduceIte, Option.bind_some, Option.toList_some, Option.toList_none, List.cons_append, List.nil_append, zB_go, zB_end, zB_no, zokv_i, zokv_r, zokv_n, eq_self]
theorem m187_3 {x r : Int32} {t : List Nat} (W : zMd (d + 2) 187 [.ref 91, .int (nI 1), .int (x / nI 2)] K M P r t) : zMd (d + 3) 187 [.ref 91, .int (nI 3), .int x] K M P (r) (40 :: t) := fun h L c s z => by
  obtain ⟨h1, a1, s1, z1, f1⟩ := c181 (d + 1) (b := 40) s z
  have c1 := zMc_f c f1
  obtain ⟨h2, a2, s2, z2, f2⟩ := W h1 _ c1 s1 z1
  have c2 := zMc_f c1 f2
  have k1 := fun d => c183 d c1
  have k2 := fun d => c184 d c2
  refine ⟨h2, ?_, zTM_app s2, z2, zMf_trans f1 f2⟩
  simp (decide := true) only [e187, q187_0, q187_1, q187_57, q187_58, q187_60, q187_63, q187_64, q187_65, q187_68, q187_69, q187_70, q187_71, q187_74, a1, a2, c182 _ (show 3 < 7 by decide), show zab2 3 = 1 from rfl, zn2, not_false_eq_true, rc_M, zn1_0, if_true, if_false, ↓reduceIte, Option.bind_some, Option.toList_some, Option.toList_none, List.cons_append, List.nil_append, zB_go, zB_end, zB_no, zokv_i, zokv_r, zokv_n, eq_self]
theorem m187_5 {x r : Int32} {t : List Nat} (W : zMd (d + 2) 187 [.ref 91, .int (nI 0), .int x] K M P r t) : zMd (d + 3) 187 [.ref 91, .int (nI 5), .int x] K M P (r * nI 3) (61 :: t) := fun h L c s z => by
  obtain ⟨h1, a1, s1, z1, f1⟩ := c181 (d + 1) (b := 61) s z
  have c1 := zMc_f c f1
  obtain ⟨h2, a2, s2, z2, f2⟩ := W h1 _ c1 s1 z1
  have c2 := zMc_f c1 f2
  have k1 := fun d => c183 d c1
  have k2 := fun d => c184 d c2
  refine ⟨h2, ?_, zTM_app s2, z2, zMf_trans f1 f2⟩
  simp (decide := true) only [e187, q187_0, q187_1, q187_75, q187_76, q187_78, q187_81, q187_82, q187_83, q187_86, q187_87, q187_90, q187_91, q187_92, a1, a2, c182 _ (show 5 < 7 by decide), show zab2 5 = 0 from rfl, rc_M, zn1_0, if_true, if_false, ↓reduceIte, Option.bind_some, Option.toList_some, Option.toList_none, List.cons_append, List.nil_append, zB_go, zB_end, zB_no, zokv_i, zokv_r, zokv_n, eq_self]
theorem m187_1 {x r : Int32} {t : List Nat} (W : zMd (d + 1) 187 [.ref 91, .int (nI (zab2 1)), .int x] K M P r t) : zMd (d + 2) 187 [.ref 91, .int (nI 1), .int x] K M P r t := fun h L c s z => by
  obtain ⟨h2, a2, s2⟩ := W h L c s z
  have e := fun d => c182 d (show 1 < 7 by decide) h
  refine ⟨h2, ?_, s2⟩
  simp (decide := true) only [e187, q187_0, q187_1, q187_93, q187_94, q187_95, q187_98, q187_99, q187_102, e, a2, rc_M, zn1_0, if_true, if_false, ↓reduceIte, Option.bind_some, Option.toList_some, Option.toList_none, List.cons_append, List.nil_append, zB_go, zB_end, zB_no, zokv_i, zokv_r, zokv_n, eq_self]
theorem m187_2 {x r : Int32} {t : List Nat} (W : zMd (d + 1) 187 [.ref 91, .int (nI (zab2 2)), .int x] K M P r t) : zMd (d + 2) 187 [.ref 91, .int (nI 2), .int x] K M P r t := fun h L c s z => by
  obtain ⟨h2, a2, s2⟩ := W h L c s z
  have e := fun d => c182 d (show 2 < 7 by decide) h
  refine ⟨h2, ?_, s2⟩
  simp (decide := true) only [e187, q187_0, q187_1, q187_93, q187_94, q187_95, q187_98, q187_99, q187_102, e, a2, rc_M, zn1_0, if_true, if_false, ↓reduceIte, Option.bind_some, Option.toList_some, Option.toList_none, List.cons_append, List.nil_append, zB_go, zB_end, zB_no, zokv_i, zokv_r, zokv_n, eq_self]
theorem m187_4 {x r : Int32} {t : List Nat} (W : zMd (d + 1) 187 [.ref 91, .int (nI (zab2 4)), .int x] K M P r t) : zMd (d + 2) 187 [.ref 91, .int (nI 4), .int x] K M P r t := fun h L c s z => by
  obtain ⟨h2, a2, s2⟩ := W h L c s z
  have e := fun d => c182 d (show 4 < 7 by decide) h
  refine ⟨h2, ?_, s2⟩
  simp (decide := true) only [e187, q187_0, q187_1, q187_93, q187_94, q187_95, q187_98, q187_99, q187_102, e, a2, rc_M, zn1_0, if_true, if_false, ↓reduceIte, Option.bind_some, Option.toList_some, Option.toList_none, List.cons_append, List.nil_append, zB_go, zB_end, zB_no, zokv_i, zokv_r, zokv_n, eq_self]
theorem m187_6 {x r : Int32} {t : List Nat} (W : zMd (d + 1) 187 [.ref 91, .int (nI (zab2 6)), .int x] K M P r t) : zMd (d + 2) 187 [.ref 91, .int (nI 6), .int x] K M P r t := fun h L c s z => by
  obtain ⟨h2, a2, s2⟩ := W h L c s z
  have e := fun d => c182 d (show 6 < 7 by decide) h
  refine ⟨h2, ?_, s2⟩
  simp (decide := true) only [e187, q187_0, q187_1, q187_93, q187_94, q187_95, q187_98, q187_99, q187_102, e, a2, rc_M, zn1_0, if_true, if_false, ↓reduceIte, Option.bind_some, Option.toList_some, Option.toList_none, List.cons_append, List.nil_append, zB_go, zB_end, zB_no, zokv_i, zokv_r, zokv_n, eq_self]
end O88
