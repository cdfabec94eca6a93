/-! ===== voices: the class's bodies ===== -/
theorem zTC_app {h : zH} {L t : List Nat} {b : Nat} (c : zTC h (L ++ [b] ++ t)) : zTC h (L ++ b :: t) := by
  rw [List.append_assoc] at c; exact c
section O86
variable (d : Nat)
theorem x97_10 {K M P : Nat} {x z : Int32} {h : zH} {L : List Nat} (s : zSp h K M P) (c : zTC h L) : ∃ h1, zCf zT znl (d + 2) 97 [.ref 79, .int (nI 10), .int x, .int z] h = zXf zT znl (d + 1) 97 128 [.ref 79, .int (nI 10), .int x, .int z] [] h1 ∧ zSp h1 K M P ∧ zTC h1 (L ++ [10]) ∧ ∀ a, a ≠ 79 → a ≠ 80 → h1 a = h a := by
  obtain ⟨h1, a, b⟩ := c92 d (b := 10) s c
  refine ⟨h1, ?_, b⟩
  simp (decide := true) only [e97, q97_0, q97_1, q97_2, q97_5, q97_6, a, rc_P, zn1_0, if_true, if_false, ↓reduceIte, Option.bind_some, Option.toList_some, Option.toList_none, List.cons_append, List.nil_append, zB_go, zB_end, zB_no, zokv_i, zokv_r, zokv_n, eq_self]
theorem x97_11 {K M P : Nat} {x z : Int32} {h : zH} {L : List Nat} (s : zSp h K M P) (c : zTC h L) : ∃ h1, zCf zT znl (d + 2) 97 [.ref 79, .int (nI 11), .int x, .int z] h = zXf zT znl (d + 1) 97 135 [.ref 79, .int (nI 11), .int x, .int z] [] h1 ∧ zSp h1 K M P ∧ zTC h1 (L ++ [11]) ∧ ∀ a, a ≠ 79 → a ≠ 80 → h1 a = h a := by
  obtain ⟨h1, a, b⟩ := c92 d (b := 11) s c
  refine ⟨h1, ?_, b⟩
  simp (decide := true) only [e97, q97_0, q97_1, q97_2, q97_5, q97_6, a, rc_P, zn1_0, if_true, if_false, ↓reduceIte, Option.bind_some, Option.toList_some, Option.toList_none, List.cons_append, List.nil_append, zB_go, zB_end, zB_no, zokv_i, zokv_r, zokv_n, eq_self]
theorem x97_12 {K M P : Nat} {x z : Int32} {h : zH} {L : List Nat} (s : zSp h K M P) (c : zTC h L) : ∃ h1, zCf zT znl (d + 2) 97 [.ref 79, .int (nI 12), .int x, .int z] h = zXf zT znl (d + 1) 97 145 [.ref 79, .int (nI 12), .int x, .int z] [] h1 ∧ zSp h1 K M P ∧ zTC h1 (L ++ [12]) ∧ ∀ a, a ≠ 79 → a ≠ 80 → h1 a = h a := by
  obtain ⟨h1, a, b⟩ := c92 d (b := 12) s c
  refine ⟨h1, ?_, b⟩
  simp (decide := true) only [e97, q97_0, q97_1, q97_2, q97_5, q97_6, a, rc_P, zn1_0, if_true, if_false, ↓reduceIte, Option.bind_some, Option.toList_some, Option.toList_none, List.cons_append, List.nil_append, zB_go, zB_end, zB_no, zokv_i, zokv_r, zokv_n, eq_self]
theorem x97_13 {K M P : Nat} {x z : Int32} {h : zH} {L : List Nat} (s : zSp h K M P) (c : zTC h L) : ∃ h1, zCf zT znl (d + 2) 97 [.ref 79, .int (nI 13), .int x, .int z] h = zXf zT znl (d + 1) 97 158 [.ref 79, .int (nI 13), .int x, .int z] [] h1 ∧ zSp h1 K M P ∧ zTC h1 (L ++ [13]) ∧ ∀ a, a ≠ 79 → a ≠ 80 → h1 a = h a := by
  obtain ⟨h1, a, b⟩ := c92 d (b := 13) s c
  refine ⟨h1, ?_, b⟩
  simp (decide := true) only [e97, q97_0, q97_1, q97_2, q97_5, q97_6, a, rc_P, zn1_0, if_true, if_false, ↓reduceIte, Option.bind_some, Option.toList_some, Option.toList_none, List.cons_append, List.nil_append, zB_go, zB_end, zB_no, zokv_i, zokv_r, zokv_n, eq_self]
theorem x97_20 {K M P : Nat} {x z : Int32} {h : zH} {L : List Nat} (s : zSp h K M P) (c : zTC h L) : ∃ h1, zCf zT znl (d + 2) 97 [.ref 79, .int (nI 20), .int x, .int z] h = zXf zT znl (d + 1) 97 164 [.ref 79, .int (nI 20), .int x, .int z] [] h1 ∧ zSp h1 K M P ∧ zTC h1 (L ++ [20]) ∧ ∀ a, a ≠ 79 → a ≠ 80 → h1 a = h a := by
  obtain ⟨h1, a, b⟩ := c92 d (b := 20) s c
  refine ⟨h1, ?_, b⟩
  simp (decide := true) only [e97, q97_0, q97_1, q97_2, q97_5, q97_6, a, rc_P, zn1_0, if_true, if_false, ↓reduceIte, Option.bind_some, Option.toList_some, Option.toList_none, List.cons_append, List.nil_append, zB_go, zB_end, zB_no, zokv_i, zokv_r, zokv_n, eq_self]
theorem x97_21 {K M P : Nat} {x z : Int32} {h : zH} {L : List Nat} (s : zSp h K M P) (c : zTC h L) : ∃ h1, zCf zT znl (d + 2) 97 [.ref 79, .int (nI 21), .int x, .int z] h = zXf zT znl (d + 1) 97 175 [.ref 79, .int (nI 21), .int x, .int z] [] h1 ∧ zSp h1 K M P ∧ zTC h1 (L ++ [21]) ∧ ∀ a, a ≠ 79 → a ≠ 80 → h1 a = h a := by
  obtain ⟨h1, a, b⟩ := c92 d (b := 21) s c
  refine ⟨h1, ?_, b⟩
  simp (decide := true) only [e97, q97_0, q97_1, q97_2, q97_5, q97_6, a, rc_P, zn1_0, if_true, if_false, ↓reduceIte, Option.bind_some, Option.toList_some, Option.toList_none, List.cons_append, List.nil_append, zB_go, zB_end, zB_no, zokv_i, zokv_r, zokv_n, eq_self]
theorem x97_30 {K M P : Nat} {x z : Int32} {h : zH} {L : List Nat} (s : zSp h K M P) (c : zTC h L) : ∃ h1, zCf zT znl (d + 2) 97 [.ref 79, .int (nI 30), .int x, .int z] h = zXf zT znl (d + 1) 97 192 [.ref 79, .int (nI 30), .int x, .int z] [] h1 ∧ zSp h1 K M P ∧ zTC h1 (L ++ [30]) ∧ ∀ a, a ≠ 79 → a ≠ 80 → h1 a = h a := by
  obtain ⟨h1, a, b⟩ := c92 d (b := 30) s c
  refine ⟨h1, ?_, b⟩
  simp (decide := true) only [e97, q97_0, q97_1, q97_2, q97_5, q97_6, a, rc_P, zn1_0, if_true, if_false, ↓reduceIte, Option.bind_some, Option.toList_some, Option.toList_none, List.cons_append, List.nil_append, zB_go, zB_end, zB_no, zokv_i, zokv_r, zokv_n, eq_self]
theorem x97_40 {K M P : Nat} {x z : Int32} {h : zH} {L : List Nat} (s : zSp h K M P) (c : zTC h L) : ∃ h1, zCf zT znl (d + 2) 97 [.ref 79, .int (nI 40), .int x, .int z] h = zXf zT znl (d + 1) 97 203 [.ref 79, .int (nI 40), .int x, .int z] [] h1 ∧ zSp h1 K M P ∧ zTC h1 (L ++ [40]) ∧ ∀ a, a ≠ 79 → a ≠ 80 → h1 a = h a := by
  obtain ⟨h1, a, b⟩ := c92 d (b := 40) s c
  refine ⟨h1, ?_, b⟩
  simp (decide := true) only [e97, q97_0, q97_1, q97_2, q97_5, q97_6, a, rc_P, zn1_0, if_true, if_false, ↓reduceIte, Option.bind_some, Option.toList_some, Option.toList_none, List.cons_append, List.nil_append, zB_go, zB_end, zB_no, zokv_i, zokv_r, zokv_n, eq_self]
theorem x97_41 {K M P : Nat} {x z : Int32} {h : zH} {L : List Nat} (s : zSp h K M P) (c : zTC h L) : ∃ h1, zCf zT znl (d + 2) 97 [.ref 79, .int (nI 41), .int x, .int z] h = zXf zT znl (d + 1) 97 214 [.ref 79, .int (nI 41), .int x, .int z] [] h1 ∧ zSp h1 K M P ∧ zTC h1 (L ++ [41]) ∧ ∀ a, a ≠ 79 → a ≠ 80 → h1 a = h a := by
  obtain ⟨h1, a, b⟩ := c92 d (b := 41) s c
  refine ⟨h1, ?_, b⟩
  simp (decide := true) only [e97, q97_0, q97_1, q97_2, q97_5, q97_6, a, rc_P, zn1_0, if_true, if_false, ↓reduceIte, Option.bind_some, Option.toList_some, Option.toList_none, List.cons_append, List.nil_append, zB_go, zB_end, zB_no, zokv_i, zokv_r, zokv_n, eq_self]
theorem x97_50 {K M P : Nat} {x z : Int32} {h : zH} {L : List Nat} (s : zSp h K M P) (c : zTC h L) : ∃ h1, zCf zT znl (d + 2) 97 [.ref 79, .int (nI 50), .int x, .int z] h = zXf zT znl (d + 1) 97 228 [.ref 79, .int (nI 50), .int x, .int z] [] h1 ∧ zSp h1 K M P ∧ zTC h1 (L ++ [50]) ∧ ∀ a, a ≠ 79 → a ≠ 80 → h1 a = h a := by
  obtain ⟨h1, a, b⟩ := c92 d (b := 50) s c
  refine ⟨h1, ?_, b⟩
  simp (decide := true) only [e97, q97_0, q97_1, q97_2, q97_5, q97_6, a, rc_P, zn1_0, if_true, if_false, ↓reduceIte, Option.bind_some, Option.toList_some, Option.toList_none, List.cons_append, List.nil_append, zB_go, zB_end, zB_no, zokv_i, zokv_r, zokv_n, eq_self]
theorem x97_60 {K M P : Nat} {x z : Int32} {h : zH} {L : List Nat} (s : zSp h K M P) (c : zTC h L) : ∃ h1, zCf zT znl (d + 2) 97 [.ref 79, .int (nI 60), .int x, .int z] h = zXf zT znl (d + 1) 97 231 [.ref 79, .int (nI 60), .int x, .int z] [] h1 ∧ zSp h1 K M P ∧ zTC h1 (L ++ [60]) ∧ ∀ a, a ≠ 79 → a ≠ 80 → h1 a = h a := by
  obtain ⟨h1, a, b⟩ := c92 d (b := 60) s c
  refine ⟨h1, ?_, b⟩
  simp (decide := true) only [e97, q97_0, q97_1, q97_2, q97_5, q97_6, a, rc_P, zn1_0, if_true, if_false, ↓reduceIte, Option.bind_some, Option.toList_some, Option.toList_none, List.cons_append, List.nil_append, zB_go, zB_end, zB_no, zokv_i, zokv_r, zokv_n, eq_self]
theorem x97_61 {K M P : Nat} {x z : Int32} {h : zH} {L : List Nat} (s : zSp h K M P) (c : zTC h L) : ∃ h1, zCf zT znl (d + 2) 97 [.ref 79, .int (nI 61), .int x, .int z] h = zXf zT znl (d + 1) 97 242 [.ref 79, .int (nI 61), .int x, .int z] [] h1 ∧ zSp h1 K M P ∧ zTC h1 (L ++ [61]) ∧ ∀ a, a ≠ 79 → a ≠ 80 → h1 a = h a := by
  obtain ⟨h1, a, b⟩ := c92 d (b := 61) s c
  refine ⟨h1, ?_, b⟩
  simp (decide := true) only [e97, q97_0, q97_1, q97_2, q97_5, q97_6, a, rc_P, zn1_0, if_true, if_false, ↓reduceIte, Option.bind_some, Option.toList_some, Option.toList_none, List.cons_append, List.nil_append, zB_go, zB_end, zB_no, zokv_i, zokv_r, zokv_n, eq_self]
theorem x97_70 {K M P : Nat} {x z : Int32} {h : zH} {L : List Nat} (s : zSp h K M P) (c : zTC h L) : ∃ h1, zCf zT znl (d + 2) 97 [.ref 79, .int (nI 70), .int x, .int z] h = zXf zT znl (d + 1) 97 253 [.ref 79, .int (nI 70), .int x, .int z] [] h1 ∧ zSp h1 K M P ∧ zTC h1 (L ++ [70]) ∧ ∀ a, a ≠ 79 → a ≠ 80 → h1 a = h a := by
  obtain ⟨h1, a, b⟩ := c92 d (b := 70) s c
  refine ⟨h1, ?_, b⟩
  simp (decide := true) only [e97, q97_0, q97_1, q97_2, q97_5, q97_6, a, rc_P, zn1_0, if_true, if_false, ↓reduceIte, Option.bind_some, Option.toList_some, Option.toList_none, List.cons_append, List.nil_append, zB_go, zB_end, zB_no, zokv_i, zokv_r, zokv_n, eq_self]
theorem x97_71 {K M P : Nat} {x z : Int32} {h : zH} {L : List Nat} (s : zSp h K M P) (c : zTC h L) : ∃ h1, zCf zT znl (d + 2) 97 [.ref 79, .int (nI 71), .int x, .int z] h = zXf zT znl (d + 1) 97 268 [.ref 79, .int (nI 71), .int x, .int z] [] h1 ∧ zSp h1 K M P ∧ zTC h1 (L ++ [71]) ∧ ∀ a, a ≠ 79 → a ≠ 80 → h1 a = h a := by
  obtain ⟨h1, a, b⟩ := c92 d (b := 71) s c
  refine ⟨h1, ?_, b⟩
  simp (decide := true) only [e97, q97_0, q97_1, q97_2, q97_5, q97_6, a, rc_P, zn1_0, if_true, if_false, ↓reduceIte, Option.bind_some, Option.toList_some, Option.toList_none, List.cons_append, List.nil_append, zB_go, zB_end, zB_no, zokv_i, zokv_r, zokv_n, eq_self]
theorem s97_10 {K M P : Nat} {x z : Int32} : zSaid (d + 2) 97 [.ref 79, .int (nI 10), .int x, .int z] K M P (x + nI P) [10] := fun h L s c => by
  obtain ⟨h1, e1, s1, c1, f1⟩ := x97_10 d (x := x) (z := z) s c
  refine ⟨h1, ?_, s1, c1, f1⟩
  rw [e1]
  simp only [q97_128, q97_129, q97_130, q97_133, q97_134, gf_P5, s1.2.2.2, Option.bind_some, Option.toList_some, Option.toList_none, List.cons_append, List.nil_append, zB_go, zB_end, zB_no, zokv_i, zokv_r, zokv_n, eq_self]
theorem s97_50 {K M P : Nat} {x z : Int32} : zSaid (d + 2) 97 [.ref 79, .int (nI 50), .int x, .int z] K M P (nI 8) [50] := fun h L s c => by
  obtain ⟨h1, e1, s1, c1, f1⟩ := x97_50 d (x := x) (z := z) s c
  refine ⟨h1, ?_, s1, c1, f1⟩
  rw [e1]
  simp only [q97_228, q97_230, Option.bind_some, Option.toList_some, Option.toList_none, List.cons_append, List.nil_append, zB_go, zB_end, zB_no, zokv_i, zokv_r, zokv_n, eq_self]
theorem s97_11 {K M P : Nat} {x z r : Int32} {t : List Nat} (W : zSaid (d + 1) 96 [.ref 79, .int (nI 0), .int x, .int z] K M P r t) : zSaid (d + 2) 97 [.ref 79, .int (nI 11), .int x, .int z] K M P (r * nI 2) (11 :: t) := fun h L s c => by
  obtain ⟨h1, e1, s1, c1, f1⟩ := x97_11 d (x := x) (z := z) s c
  obtain ⟨h2, w2, s2, c2, f2⟩ := W h1 _ s1 c1
  refine ⟨h2, ?_, s2, zTC_app c2, fun a q1 q2 => by rw [f2 a q1 q2, f1 a q1 q2]⟩
  rw [e1]
  simp only [q97_135, q97_136, q97_137, q97_138, q97_139, q97_142, q97_143, q97_144, w2, rc_P, Option.bind_some, Option.toList_some, Option.toList_none, List.cons_append, List.nil_append, zB_go, zB_end, zB_no, zokv_i, zokv_r, zokv_n, eq_self]
theorem s97_12 {K M P : Nat} {x z r : Int32} {t : List Nat} (W : zSaid (d + 1) 96 [.ref 79, .int (nI 1), .int x, .int z] K M P r t) : zSaid (d + 2) 97 [.ref 79, .int (nI 12), .int x, .int z] K M P (r - nI M) (12 :: t) := fun h L s c => by
  obtain ⟨h1, e1, s1, c1, f1⟩ := x97_12 d (x := x) (z := z) s c
  obtain ⟨h2, w2, s2, c2, f2⟩ := W h1 _ s1 c1
  refine ⟨h2, ?_, s2, zTC_app c2, fun a q1 q2 => by rw [f2 a q1 q2, f1 a q1 q2]⟩
  rw [e1]
  simp only [q97_145, q97_146, q97_147, q97_148, q97_149, q97_152, q97_153, q97_156, q97_157, gf_P4, s2.2.2.1, w2, rc_P, Option.bind_some, Option.toList_some, Option.toList_none, List.cons_append, List.nil_append, zB_go, zB_end, zB_no, zokv_i, zokv_r, zokv_n, eq_self]
theorem s97_20 {K M P : Nat} {x z r : Int32} {t : List Nat} (W : zSaid (d + 1) 94 [.ref 79, .int (nI 1), .int (nI 0), .int x, .int z] K M P r t) : zSaid (d + 2) 97 [.ref 79, .int (nI 20), .int x, .int z] K M P (r - nI 4) (20 :: t) := fun h L s c => by
  obtain ⟨h1, e1, s1, c1, f1⟩ := x97_20 d (x := x) (z := z) s c
  obtain ⟨h2, w2, s2, c2, f2⟩ := W h1 _ s1 c1
  refine ⟨h2, ?_, s2, zTC_app c2, fun a q1 q2 => by rw [f2 a q1 q2, f1 a q1 q2]⟩
  rw [e1]
  simp only [q97_164, q97_165, q97_166, q97_167, q97_168, q97_169, q97_172, q97_173, q97_174, w2, rc_P, Option.bind_some, Option.toList_some, Option.toList_none, List.cons_append, List.nil_append, zB_go, zB_end, zB_no, zokv_i, zokv_r, zokv_n, eq_self]
theorem s97_30 {K M P : Nat} {x z r : Int32} {t : List Nat} (W : zSaid (d + 1) 94 [.ref 79, .int (nI 2), .int (nI 1), .int x, .int z] K M P r t) : zSaid (d + 2) 97 [.ref 79, .int (nI 30), .int x, .int z] K M P (nI 0 - r) (30 :: t) := fun h L s c => by
  obtain ⟨h1, e1, s1, c1, f1⟩ := x97_30 d (x := x) (z := z) s c
  obtain ⟨h2, w2, s2, c2, f2⟩ := W h1 _ s1 c1
  refine ⟨h2, ?_, s2, zTC_app c2, fun a q1 q2 => by rw [f2 a q1 q2, f1 a q1 q2]⟩
  rw [e1]
  simp only [q97_192, q97_193, q97_194, q97_195, q97_196, q97_197, q97_198, q97_201, q97_202, w2, rc_P, Option.bind_some, Option.toList_some, Option.toList_none, List.cons_append, List.nil_append, zB_go, zB_end, zB_no, zokv_i, zokv_r, zokv_n, eq_self]
theorem s97_40 {K M P : Nat} {x z r : Int32} {t : List Nat} (W : zSaid (d + 1) 94 [.ref 79, .int (nI 3), .int (nI 2), .int (x / nI 2), .int z] K M P r t) : zSaid (d + 2) 97 [.ref 79, .int (nI 40), .int x, .int z] K M P (r) (40 :: t) := fun h L s c => by
  obtain ⟨h1, e1, s1, c1, f1⟩ := x97_40 d (x := x) (z := z) s c
  obtain ⟨h2, w2, s2, c2, f2⟩ := W h1 _ s1 c1
  refine ⟨h2, ?_, s2, zTC_app c2, fun a q1 q2 => by rw [f2 a q1 q2, f1 a q1 q2]⟩
  rw [e1]
  simp only [q97_203, q97_204, q97_205, q97_206, q97_207, q97_208, q97_209, q97_210, q97_213, zn2, not_false_eq_true, w2, rc_P, Option.bind_some, Option.toList_some, Option.toList_none, List.cons_append, List.nil_append, zB_go, zB_end, zB_no, zokv_i, zokv_r, zokv_n, eq_self]
theorem s97_41 {K M P : Nat} {x z r : Int32} {t : List Nat} (W : zSaid (d + 1) 94 [.ref 79, .int (nI 3), .int (nI 0), .int x, .int z] K M P r t) : zSaid (d + 2) 97 [.ref 79, .int (nI 41), .int x, .int z] K M P (r ^^^ nI P) (41 :: t) := fun h L s c => by
  obtain ⟨h1, e1, s1, c1, f1⟩ := x97_41 d (x := x) (z := z) s c
  obtain ⟨h2, w2, s2, c2, f2⟩ := W h1 _ s1 c1
  refine ⟨h2, ?_, s2, zTC_app c2, fun a q1 q2 => by rw [f2 a q1 q2, f1 a q1 q2]⟩
  rw [e1]
  simp only [q97_214, q97_215, q97_216, q97_217, q97_218, q97_219, q97_222, q97_223, q97_226, q97_227, gf_P5, s2.2.2.2, w2, rc_P, Option.bind_some, Option.toList_some, Option.toList_none, List.cons_append, List.nil_append, zB_go, zB_end, zB_no, zokv_i, zokv_r, zokv_n, eq_self]
theorem s97_60 {K M P : Nat} {x z r : Int32} {t : List Nat} (W : zSaid (d + 1) 94 [.ref 79, .int (nI 5), .int (nI 1), .int (x + nI 1), .int z] K M P r t) : zSaid (d + 2) 97 [.ref 79, .int (nI 60), .int x, .int z] K M P (r) (60 :: t) := fun h L s c => by
  obtain ⟨h1, e1, s1, c1, f1⟩ := x97_60 d (x := x) (z := z) s c
  obtain ⟨h2, w2, s2, c2, f2⟩ := W h1 _ s1 c1
  refine ⟨h2, ?_, s2, zTC_app c2, fun a q1 q2 => by rw [f2 a q1 q2, f1 a q1 q2]⟩
  rw [e1]
  simp only [q97_231, q97_232, q97_233, q97_234, q97_235, q97_236, q97_237, q97_238, q97_241, w2, rc_P, Option.bind_some, Option.toList_some, Option.toList_none, List.cons_append, List.nil_append, zB_go, zB_end, zB_no, zokv_i, zokv_r, zokv_n, eq_self]
theorem s97_61 {K M P : Nat} {x z r : Int32} {t : List Nat} (W : zSaid (d + 1) 94 [.ref 79, .int (nI 5), .int (nI 2), .int x, .int z] K M P r t) : zSaid (d + 2) 97 [.ref 79, .int (nI 61), .int x, .int z] K M P (r * nI 3) (61 :: t) := fun h L s c => by
  obtain ⟨h1, e1, s1, c1, f1⟩ := x97_61 d (x := x) (z := z) s c
  obtain ⟨h2, w2, s2, c2, f2⟩ := W h1 _ s1 c1
  refine ⟨h2, ?_, s2, zTC_app c2, fun a q1 q2 => by rw [f2 a q1 q2, f1 a q1 q2]⟩
  rw [e1]
  simp only [q97_242, q97_243, q97_244, q97_245, q97_246, q97_247, q97_250, q97_251, q97_252, w2, rc_P, Option.bind_some, Option.toList_some, Option.toList_none, List.cons_append, List.nil_append, zB_go, zB_end, zB_no, zokv_i, zokv_r, zokv_n, eq_self]
theorem s97_70 {K M P : Nat} {x z r : Int32} {t : List Nat} (W : zSaid (d + 1) 94 [.ref 79, .int (nI 6), .int (nI 0), .int x, .int z] K M P r t) : zSaid (d + 2) 97 [.ref 79, .int (nI 70), .int x, .int z] K M P (r + nI M) (70 :: t) := fun h L s c => by
  obtain ⟨h1, e1, s1, c1, f1⟩ := x97_70 d (x := x) (z := z) s c
  obtain ⟨h2, w2, s2, c2, f2⟩ := W h1 _ s1 c1
  refine ⟨h2, ?_, s2, zTC_app c2, fun a q1 q2 => by rw [f2 a q1 q2, f1 a q1 q2]⟩
  rw [e1]
  simp only [q97_253, q97_254, q97_256, q97_257, q97_258, q97_259, q97_262, q97_263, q97_266, q97_267, gf_P4, s2.2.2.1, w2, rc_P, Option.bind_some, Option.toList_some, Option.toList_none, List.cons_append, List.nil_append, zB_go, zB_end, zB_no, zokv_i, zokv_r, zokv_n, eq_self]
theorem s97_21 {K M P : Nat} {x z r r2 : Int32} {t t2 : List Nat} (W : zSaid (d + 1) 94 [.ref 79, .int (nI 1), .int (nI 3), .int x, .int z] K M P r t) (W2 : zSaid (d + 1) 96 [.ref 79, .int (nI 1), .int (nI 1), .int z] K M P r2 t2) : zSaid (d + 2) 97 [.ref 79, .int (nI 21), .int x, .int z] K M P (r + r2) (21 :: (t ++ t2)) := fun h L s c => by
  obtain ⟨h1, e1, s1, c1, f1⟩ := x97_21 d (x := x) (z := z) s c
  obtain ⟨h2, w2, s2, c2, f2⟩ := W h1 _ s1 c1
  obtain ⟨h3, w3, s3, c3, f3⟩ := W2 h2 _ s2 c2
  refine ⟨h3, ?_, s3, zTC_app (by rw [← List.append_assoc]; exact c3), fun a q1 q2 => by rw [f3 a q1 q2, f2 a q1 q2, f1 a q1 q2]⟩
  rw [e1]
  simp only [q97_175, q97_176, q97_177, q97_178, q97_179, q97_180, q97_183, q97_184, q97_185, q97_186, q97_187, q97_190, q97_191, w2, w3, rc_P, Option.bind_some, Option.toList_some, Option.toList_none, List.cons_append, List.nil_append, zB_go, zB_end, zB_no, zokv_i, zokv_r, zokv_n, eq_self]
theorem p97_21 {K M P : Nat} {x z : Int32} {t : List Nat} (W : zPart (d + 2) 94 [.ref 79, .int (nI 1), .int (nI 3), .int x, .int z] K M P t) : zPart (d + 3) 97 [.ref 79, .int (nI 21), .int x, .int z] K M P (21 :: t) := fun h L s c => by
  obtain ⟨h1, e1, s1, c1, f1⟩ := x97_21 (d + 1) (x := x) (z := z) s c
  obtain ⟨h2, r, w2, s2, s3, c2, f2⟩ := W h1 _ s1 c1
  have w3 := fun v x z => x96 (D := d + 1) (v := v) (x := x) (z := z) (y := nI K) s3 (x95p (D := d) s2)
  refine ⟨h2, r + nI 0, ?_, s2, s3, zTC_app c2, fun a q1 q2 => by rw [f2 a q1 q2, f1 a q1 q2]⟩
  rw [e1]
  simp only [q97_175, q97_176, q97_177, q97_178, q97_179, q97_180, q97_183, q97_184, q97_185, q97_186, q97_187, q97_190, q97_191, w2, w3, rc_P, Option.bind_some, Option.toList_some, Option.toList_none, List.cons_append, List.nil_append, zB_go, zB_end, zB_no, zokv_i, zokv_r, zokv_n, eq_self]
theorem s97_71 {K M P : Nat} {x z r r2 : Int32} {t t2 : List Nat} (W : zSaid (d + 1) 94 [.ref 79, .int (nI 6), .int (nI 3), .int x, .int z] K M P r t) (W2 : zSaid (d + 1) 96 [.ref 79, .int (nI 2), .int (nI 0), .int z] K M P r2 t2) : zSaid (d + 2) 97 [.ref 79, .int (nI 71), .int x, .int z] K M P (r - r2) (71 :: (t ++ t2)) := fun h L s c => by
  obtain ⟨h1, e1, s1, c1, f1⟩ := x97_71 d (x := x) (z := z) s c
  obtain ⟨h2, w2, s2, c2, f2⟩ := W h1 _ s1 c1
  obtain ⟨h3, w3, s3, c3, f3⟩ := W2 h2 _ s2 c2
  refine ⟨h3, ?_, s3, zTC_app (by rw [← List.append_assoc]; exact c3), fun a q1 q2 => by rw [f3 a q1 q2, f2 a q1 q2, f1 a q1 q2]⟩
  rw [e1]
  simp only [q97_268, q97_269, q97_271, q97_272, q97_273, q97_274, q97_277, q97_278, q97_279, q97_280, q97_281, q97_284, q97_285, w2, w3, rc_P, Option.bind_some, Option.toList_some, Option.toList_none, List.cons_append, List.nil_append, zB_go, zB_end, zB_no, zokv_i, zokv_r, zokv_n, eq_self]
theorem p97_71 {K M P : Nat} {x z : Int32} {t : List Nat} (W : zPart (d + 2) 94 [.ref 79, .int (nI 6), .int (nI 3), .int x, .int z] K M P t) : zPart (d + 3) 97 [.ref 79, .int (nI 71), .int x, .int z] K M P (71 :: t) := fun h L s c => by
  obtain ⟨h1, e1, s1, c1, f1⟩ := x97_71 (d + 1) (x := x) (z := z) s c
  obtain ⟨h2, r, w2, s2, s3, c2, f2⟩ := W h1 _ s1 c1
  have w3 := fun v x z => x96 (D := d + 1) (v := v) (x := x) (z := z) (y := nI K) s3 (x95p (D := d) s2)
  refine ⟨h2, r - nI 0, ?_, s2, s3, zTC_app c2, fun a q1 q2 => by rw [f2 a q1 q2, f1 a q1 q2]⟩
  rw [e1]
  simp only [q97_268, q97_269, q97_271, q97_272, q97_273, q97_274, q97_277, q97_278, q97_279, q97_280, q97_281, q97_284, q97_285, w2, w3, rc_P, Option.bind_some, Option.toList_some, Option.toList_none, List.cons_append, List.nil_append, zB_go, zB_end, zB_no, zokv_i, zokv_r, zokv_n, eq_self]
theorem s97_13 {K M P : Nat} {x z : Int32} (hM : M < 1000) (hP : P < 1000) (ne : M ≠ P) : zSaid (d + 2) 97 [.ref 79, .int (nI 13), .int x, .int z] K M P (x / (nI M - nI P)) [13] := fun h L s c => by
  obtain ⟨h1, e1, s1, c1, f1⟩ := x97_13 d (x := x) (z := z) s c
  have n0 : ¬ nI M - nI P = 0 := fun w => ne ((nI_eq (by omega) (by omega)).mp (by
    have := congrArg (· + nI P) w
    simp only [Int32.sub_add_cancel, Int32.zero_add] at this
    exact this))
  have n0' : ¬ nI M - nI P = nI 0 := n0
  refine ⟨h1, ?_, s1, c1, f1⟩
  rw [e1]
  simp only [q97_158, q97_159, q97_160, q97_163, e93, q93_0, q93_1, q93_4, q93_5, q93_8, q93_9, q93_10, q93_11, q93_21, q93_22, q93_23, q93_24, gf_P4, gf_P5, s1.2.2.1, s1.2.2.2, n0, n0', not_false_eq_true, rc_P, zn1_0, if_true, if_false, ↓reduceIte, Option.bind_some, Option.toList_some, Option.toList_none, List.cons_append, List.nil_append, zB_go, zB_end, zB_no, zokv_i, zokv_r, zokv_n, eq_self]
theorem p97_13 {K P : Nat} {x z : Int32} : zPart (d + 2) 97 [.ref 79, .int (nI 13), .int x, .int z] K P P [13] := fun h L s c => by
  obtain ⟨h1, e1, s1, c1, f1⟩ := x97_13 d (x := x) (z := z) s c
  have n0 : nI P - nI P = nI 0 := Int32.sub_self _
  refine ⟨zup h1 79 2 (nI 1), nI 0, ?_, zup_at, by rw [zup_o (by decide)]; exact s1.2.1, ⟨by rw [zup_o (by decide)]; exact c1.1, fun i hi => by rw [zup_row_ne (by decide)]; exact c1.2 i hi⟩, fun a q1 q2 => by rw [zup_row_ne q1]; exact f1 a q1 q2⟩
  rw [e1]
  simp only [q97_158, q97_159, q97_160, q97_163, e93, q93_0, q93_1, q93_4, q93_5, q93_8, q93_9, q93_10, q93_11, q93_14, q93_15, q93_16, q93_19, q93_20, gf_P4, gf_P5, pf_P2_1, s1.2.2.1, s1.2.2.2, n0, rc_P, zn1_0, if_true, if_false, ↓reduceIte, Option.bind_some, Option.toList_some, Option.toList_none, List.cons_append, List.nil_append, zB_go, zB_end, zB_no, zokv_i, zokv_r, zokv_n, eq_self]
theorem p95 {D k v dep K M P : Nat} {x : Int32} {t : List Nat} (hk : k < 7) (hv : v < 4) (hd : dep < 40) (W : zPart (D + 1) 97 [.ref 79, .int (nI (zbody k v)), .int x, .int (nI (dep + 1))] K M P t) : zPart (D + 2) 95 [.ref 79, .int (nI k), .int (nI v), .int x, .int (nI dep)] K M P t := fun h L s c => by
  obtain ⟨h', r, a, b⟩ := W h L s c
  exact ⟨h', r, x95 hk hv hd s.1 a, b⟩
theorem p94 {D k K M P : Nat} {v x z : Int32} {t : List Nat} (hk : k < 7) (k0 : k ≠ 0) (W : zPart (D + 1) 95 [.ref 79, .int (nI (zabv k)), .int v, .int x, .int z] K M P t) : zPart (D + 2) 94 [.ref 79, .int (nI k), .int v, .int x, .int z] K M P t := fun h L s c => by
  obtain ⟨h', r, a, b⟩ := W h L s c
  exact ⟨h', r, x94 hk k0 a, b⟩
end O86
