/-! ===== text ===== -/
theorem aln_23 {nx : Nat} {lo : zL} {st : List Value} {h : zH} : oAlen nx lo (.ref 23 :: st) h = zgo nx lo (.int (nI 60) :: st) h := aln_W22 zW_1
theorem gf7_1 {nx : Nat} {lo : zL} {st : List Value} {h : zH} : oGf 5 7 nx lo (.ref 1 :: st) h = zgo nx lo (.ref 23 :: st) h := gf_W7 zW_1
def zrd0 (T u : Nat) (h : zH) : zH := zup (zup (zup (zup (zup (zup (zup h 73 1 (nI 23)) 73 2 (nI T)) 73 5 (nI (314 + 4 * u))) 73 3 (nI 0)) 73 4 (-1)) 74 3 (nI 0)) 74 4 (nI 1)
theorem zrd0_ne {T u : Nat} {h : zH} {a : Nat} (h1 : a ≠ 73) (h2 : a ≠ 74) : zrd0 T u h a = h a := by
  unfold zrd0
  rw [zup_row_ne h2, zup_row_ne h2, zup_row_ne h1, zup_row_ne h1, zup_row_ne h1, zup_row_ne h1, zup_row_ne h1]
theorem zrd0_s {tp : Nat → Nat} {T u : Nat} {h : zH} (ht : ∀ i, i < 60 → h 23 i = nI (tp i)) : zCs tp T u 0 [] (zrd0 T u h) ∧ zrd0 T u h 74 4 = nI 1 := by
  have r73 : ∀ j, j ≠ 99 → zrd0 T u h 73 j = zup (zup (zup (zup (zup h 73 1 (nI 23)) 73 2 (nI T)) 73 5 (nI (314 + 4 * u))) 73 3 (nI 0)) 73 4 (-1) 73 j := fun j _ => by
    unfold zrd0
    rw [zup_row_ne (by decide), zup_row_ne (by decide)]
  refine ⟨⟨⟨?_, ?_, ?_, ?_, ?_⟩, fun i hi => by rw [zrd0_ne (by decide) (by decide)]; exact ht i hi, ?_, Nat.zero_le _, fun j q hj => by cases hj⟩, zup_at⟩
  · rw [r73 _ (by decide), zup_o (by decide), zup_o (by decide), zup_o (by decide), zup_o (by decide), zup_at]
  · rw [r73 _ (by decide), zup_o (by decide), zup_o (by decide), zup_o (by decide), zup_at]
  · rw [r73 _ (by decide), zup_o (by decide), zup_at]
  · rw [r73 _ (by decide), zup_at]
  · rw [r73 _ (by decide), zup_o (by decide), zup_o (by decide), zup_at]
  · unfold zrd0
    rw [zup_o (by decide), zup_at]; rfl
section O96
variable (d : Nat) {h : zH} {tp : Nat → Nat} {T u : Nat}
theorem c78 : zCf zT znl (d + 1) 78 [.ref 74] h = some (none, zup (zup h 74 3 (nI 0)) 74 4 (nI 1)) := by
  simp only [e78, q78_0, q78_1, q78_2, q78_5, q78_6, q78_7, q78_10, pf_T3 zTx_74, pf_T4_1 zTx_74, zn1_0, if_true, if_false, ↓reduceIte, Option.bind_some, Option.toList_some, Option.toList_none, List.cons_append, List.nil_append, zB_go, zB_end, zB_no, zokv_i, zokv_r, zokv_n, eq_self]
theorem c91_in (hT : T ≤ 60) (hu : u < 2) {h1 : zH} (A : zCf zT znl (d + 58) 89 [.ref 73, .int (nI 0), .int (nI 0)] (zrd0 T u h) = some (none, h1)) : zCf zT znl (d + 59) 91 [.ref 73, .ref 23, .int (nI T), .ref (314 + 4 * u)] h = zXf zT znl (d + 58) 91 43 [.ref 73, .ref 23, .int (nI T), .ref (314 + 4 * u)] [] h1 := by
  have mi : zmin (nI T) (nI 60) = nI T := if_neg (nI_nlt hT (by decide))
  unfold zrd0 at A
  simp only [e91, q91_0, q91_1, q91_2, q91_5, q91_6, q91_7, q91_8, q91_9, q91_12, q91_15, q91_16, q91_17, q91_20, q91_21, q91_22, q91_25, q91_26, q91_27, q91_30, q91_31, q91_34, q91_37, q91_38, q91_39, q91_40, aln_23, c206, mi, pf_R1 (show 23 < 1000 by decide), pf_R2, pf_R3, pf_R4, pf_R5 (show 314 + 4 * u < 1000 by omega), gf_R0, c78, A, rc_R, rc_T zTx_74, zn1_0, if_true, if_false, ↓reduceIte, Option.bind_some, Option.toList_some, Option.toList_none, List.cons_append, List.nil_append, zB_go, zB_end, zB_no, zokv_i, zokv_r, zokv_n, eq_self]
theorem w91_ok {t : List (Int32 × Int32)} {a b c : Value} {h1 : zH} (s : zCs tp T u T t h1) : zXf zT znl (d + 58) 91 43 [.ref 73, a, b, c] [] h1 = some (some (.int (-1)), h1) := by
  have le : nI T ≤ nI T := Int32.le_refl _
  simp only [q91_43, q91_44, q91_47, q91_48, q91_51, q91_58, q91_59, q91_62, gf_R2, gf_R3, gf_R4, s.1.2.1, s.1.2.2.1, s.1.2.2.2.1, le, rc_R, zn1_0, if_true, if_false, ↓reduceIte, Option.bind_some, Option.toList_some, Option.toList_none, List.cons_append, List.nil_append, zB_go, zB_end, zB_no, zokv_i, zokv_r, zokv_n, eq_self]
theorem w91_pt {t : List (Int32 × Int32)} {a b c : Value} {q : Nat} {h1 : zH} (hT : T ≤ 60) (hq : q < T) (s : zCs tp T u q t h1) : zXf zT znl (d + 58) 91 43 [.ref 73, a, b, c] [] h1 = some (some (.int (nI q)), zup h1 73 4 (nI q)) := by
  have le : ¬ nI T ≤ nI q := nI_ge hq (by omega)
  have c88' := c88 (d + 57) s.1
  have at4 : zup h1 73 4 (nI q) 73 4 = nI q := zup_at
  simp only [q91_43, q91_44, q91_47, q91_48, q91_51, q91_54, q91_55, q91_58, q91_59, q91_62, gf_R2, gf_R3, gf_R4, s.1.2.1, s.1.2.2.1, at4, le, c88', rc_R, zn1_0, if_true, if_false, ↓reduceIte, Option.bind_some, Option.toList_some, Option.toList_none, List.cons_append, List.nil_append, zB_go, zB_end, zB_no, zokv_i, zokv_r, zokv_n, eq_self]
theorem w91_f {a b c : Value} {q : Nat} {h1 : zH} (hq : q < 1000) (s : zFs T u q h1) : zXf zT znl (d + 58) 91 43 [.ref 73, a, b, c] [] h1 = some (some (.int (nI q)), h1) := by
  have c88' := c88_f (d + 57) hq s.2.2.1
  by_cases le : nI T ≤ h1 73 3
  · simp only [q91_43, q91_44, q91_47, q91_48, q91_51, q91_58, q91_59, q91_62, gf_R2, gf_R3, gf_R4, s.2.1, s.2.2.1, le, rc_R, zn1_0, if_true, if_false, ↓reduceIte, Option.bind_some, Option.toList_some, Option.toList_none, List.cons_append, List.nil_append, zB_go, zB_end, zB_no, zokv_i, zokv_r, zokv_n, eq_self]
  · simp only [q91_43, q91_44, q91_47, q91_48, q91_51, q91_54, q91_55, q91_58, q91_59, q91_62, gf_R2, gf_R3, gf_R4, s.2.1, s.2.2.1, le, c88', rc_R, zn1_0, if_true, if_false, ↓reduceIte, Option.bind_some, Option.toList_some, Option.toList_none, List.cons_append, List.nil_append, zB_go, zB_end, zB_no, zokv_i, zokv_r, zokv_n, eq_self]
/-- the class's act, by what the reader answered -/
theorem c19_f {q : Nat} {h2 : zH} (hu : u < 2) (hq : q < 1000) (h13 : h 1 13 = nI T) (A : zCf zT znl (d + 59) 91 [.ref 73, .ref 23, .int (nI T), .ref (314 + 4 * u)] h = some (some (.int (nI q)), h2)) : zCf zT znl (d + 60) 19 [.ref 0, .int (nI u)] h = some (some (.int ((-10) - nI q)), zup h2 1 13 (nI 0)) := by
  have ei : zwi (nI u) (nI 0) (nI 1) = nI 1 := zwi_in (by omega) (by decide)
  have ge : nI 0 ≤ nI q := nI_ge0 hq
  have nlt : ¬ nI q < nI 0 := Int32.not_lt.mpr ge
  obtain rfl | rfl : u = 0 ∨ u = 1 := by omega
  · have A' : zCf zT znl (d + 59) 91 [.ref 73, .ref 23, .int (nI T), .ref 314] h = some (some (.int (nI q)), h2) := A
    simp only [e19, q19_0, q19_1, q19_2, q19_3, q19_6, q19_15, q19_16, q19_19, q19_20, q19_23, q19_26, q19_27, q19_30, q19_33, q19_34, q19_37, q19_39, q19_44, q19_47, q19_48, q19_49, q19_52, q19_53, q19_56, q19_57, q19_60, q19_62, q19_63, q19_64, c0, ei, gf_L0, gf_L3, gf7_1, gf_W13 zW_1, pf_W13 zW_1, h13, A', nlt, rc_R, rc_W zW_1, zn1_0, if_true, if_false, ↓reduceIte, Option.bind_some, Option.toList_some, Option.toList_none, List.cons_append, List.nil_append, zB_go, zB_end, zB_no, zokv_i, zokv_r, zokv_n, eq_self]
  · have A' : zCf zT znl (d + 59) 91 [.ref 73, .ref 23, .int (nI T), .ref 318] h = some (some (.int (nI q)), h2) := A
    have n10 : ¬ nI 1 = nI 0 := by decide
    simp only [e19, q19_0, q19_1, q19_2, q19_3, q19_6, q19_15, q19_16, q19_19, q19_20, q19_23, q19_26, q19_27, q19_30, q19_33, q19_34, q19_42, q19_44, q19_47, q19_48, q19_49, q19_52, q19_53, q19_56, q19_57, q19_60, q19_62, q19_63, q19_64, c0, ei, gf_L0, gf_L3, gf7_1, gf_W13 zW_1, pf_W13 zW_1, h13, A', nlt, n10, rc_R, rc_W zW_1, zn1_0, if_true, if_false, ↓reduceIte, Option.bind_some, Option.toList_some, Option.toList_none, List.cons_append, List.nil_append, zB_go, zB_end, zB_no, zokv_i, zokv_r, zokv_n, eq_self]
theorem c19_ok {h2 h3 : zH} (hu : u < 2) (h13 : h 1 13 = nI T) (A : zCf zT znl (d + 59) 91 [.ref 73, .ref 23, .int (nI T), .ref (314 + 4 * u)] h = some (some (.int (-1)), h2)) (B : zCf zT znl (d + 59) 80 [.ref (13 + 4 * u), .ref 74] (zup h2 1 13 (nI 0)) = some (none, h3)) : zCf zT znl (d + 60) 19 [.ref 0, .int (nI u)] h = some (some (.int (nI 1)), h3) := by
  have ei : zwi (nI u) (nI 0) (nI 1) = nI 1 := zwi_in (by omega) (by decide)
  have lt : (-1 : Int32) < nI 0 := lt_m1
  obtain rfl | rfl : u = 0 ∨ u = 1 := by omega
  · have A' : zCf zT znl (d + 59) 91 [.ref 73, .ref 23, .int (nI T), .ref 314] h = some (some (.int (-1)), h2) := A
    have B' : zCf zT znl (d + 59) 80 [.ref (1 + 12), .ref 74] (zup h2 1 13 (nI 0)) = some (none, h3) := B
    simp only [e19, q19_0, q19_1, q19_2, q19_3, q19_6, q19_15, q19_16, q19_19, q19_20, q19_23, q19_26, q19_27, q19_30, q19_33, q19_34, q19_37, q19_39, q19_44, q19_47, q19_48, q19_49, q19_52, q19_53, q19_56, q19_57, q19_65, q19_66, q19_69, q19_70, q19_73, q19_74, q19_77, q19_80, q19_83, q19_84, c0, ei, gf_L0, gf_L3, gf_R0, gf7_1, gf_W13 zW_1, pf_W13 zW_1, h13, A', B', lt, e60, q60_0, q60_1, q60_4, q60_5, q60_8, q60_11, q60_12, q60_15, gf_W3 zW_1, rc_R, rc_W zW_1, rc_T (zTx_W12 zW_1), zn1_0, if_true, if_false, ↓reduceIte, Option.bind_some, Option.toList_some, Option.toList_none, List.cons_append, List.nil_append, zB_go, zB_end, zB_no, zokv_i, zokv_r, zokv_n, eq_self]
  · have A' : zCf zT znl (d + 59) 91 [.ref 73, .ref 23, .int (nI T), .ref 318] h = some (some (.int (-1)), h2) := A
    have B' : zCf zT znl (d + 59) 80 [.ref (1 + 16), .ref 74] (zup h2 1 13 (nI 0)) = some (none, h3) := B
    have n10 : ¬ nI 1 = nI 0 := by decide
    simp only [e19, q19_0, q19_1, q19_2, q19_3, q19_6, q19_15, q19_16, q19_19, q19_20, q19_23, q19_26, q19_27, q19_30, q19_33, q19_34, q19_42, q19_44, q19_47, q19_48, q19_49, q19_52, q19_53, q19_56, q19_57, q19_65, q19_66, q19_69, q19_70, q19_73, q19_74, q19_77, q19_80, q19_83, q19_84, c0, ei, gf_L0, gf_L3, gf_R0, gf7_1, gf_W13 zW_1, pf_W13 zW_1, h13, A', B', lt, n10, e60, q60_0, q60_1, q60_4, q60_5, q60_8, q60_11, q60_12, q60_15, gf_W4 zW_1, rc_R, rc_W zW_1, rc_T (zTx_W16 zW_1), zn1_0, if_true, if_false, ↓reduceIte, Option.bind_some, Option.toList_some, Option.toList_none, List.cons_append, List.nil_append, zB_go, zB_end, zB_no, zokv_i, zokv_r, zokv_n, eq_self]
/-- the reference's -/
def zms0 (u : Nat) (g : zH) : zH := zup (zup (zup (zup g 91 8 (nI u)) 91 5 (nI 0)) 91 6 (nI 0)) 91 7 (nI 0)
theorem zms0_s {g : zH} (hT : g 92 3 = nI T) (ht : ∀ i, i < 60 → g 92 (404 + i) = nI (tp i)) : zMs tp T u 0 0 [] (zms0 u g) ∧ (∀ a, a ≠ 91 → zms0 u g a = g a) ∧ ∀ j, j ≠ 5 → j ≠ 6 → j ≠ 7 → j ≠ 8 → zms0 u g 91 j = g 91 j := by
  have ne : ∀ a, a ≠ 91 → zms0 u g a = g a := fun a ha => by
    unfold zms0
    rw [zup_row_ne ha, zup_row_ne ha, zup_row_ne ha, zup_row_ne ha]
  refine ⟨⟨?_, ?_, ?_, ?_, by rw [ne _ (by decide)]; exact hT, by rw [ne _ (by decide)]; exact ht, fun j q hj => by cases hj⟩, ne, fun j h1 h2 h3 h4 => by unfold zms0; rw [zup_o h3, zup_o h2, zup_o h1, zup_o h4]⟩
  · unfold zms0; rw [zup_o (by decide), zup_o (by decide), zup_at]
  · unfold zms0; rw [zup_o (by decide), zup_at]
  · unfold zms0; rw [zup_at]; rfl
  · unfold zms0; rw [zup_o (by decide), zup_o (by decide), zup_o (by decide), zup_at]
theorem c149_in {g g1 : zH} {v : Nat} (hu : u < 2) (A : zCf zT znl (d + 59) 148 [.ref 91] (zms0 u g) = some (some (.int (nI v)), g1)) : zCf zT znl (d + 60) 149 [.ref 91, .int (nI u)] g = zXf zT znl (d + 59) 149 39 [.ref 91, .int (nI u), Value.null, Value.null, Value.null] [.int (nI v)] g1 := by
  have ei : zwi (nI u) (nI 0) (nI 1) = nI 1 := zwi_in (by omega) (by decide)
  unfold zms0 at A
  simp only [e149, q149_0, q149_1, q149_2, q149_3, q149_6, q149_15, q149_16, q149_17, q149_20, q149_21, q149_22, q149_25, q149_26, q149_27, q149_30, q149_31, q149_32, q149_35, q149_36, c107, ei, pf_M5, pf_M6, pf_M7, pf_M8, A, rc_M, zn1_0, if_true, if_false, ↓reduceIte, Option.bind_some, Option.toList_some, Option.toList_none, List.cons_append, List.nil_append, zB_go, zB_end, zB_no, zokv_i, zokv_r, zokv_n, eq_self]
theorem w149_f {g1 : zH} {q : Nat} {a2 a3 a4 : Value} {x : Int32} (h5 : g1 91 5 = nI q) : zXf zT znl (d + 59) 149 39 [.ref 91, .int x, a2, a3, a4] [.int (nI 0)] g1 = some (some (.int ((-10) - nI q)), zup g1 92 3 (nI 0)) := by
  have n5 : ∀ v, zup g1 92 3 v 91 = g1 91 := fun v => zup_row_ne (by decide)
  simp only [q149_39, q149_59, q149_60, q149_61, q149_62, q149_65, q149_66, q149_67, q149_68, q149_69, q149_72, q149_74, q149_75, q149_78, q149_79, gf_M0, gf_M5, ast_n92 (show 3 < 488 by decide), n5, h5, rc_M, zn1_0, if_true, if_false, ↓reduceIte, Option.bind_some, Option.toList_some, Option.toList_none, List.cons_append, List.nil_append, zB_go, zB_end, zB_no, zokv_i, zokv_r, zokv_n, eq_self]
theorem w149_pt {g1 : zH} {q : Nat} {a2 a3 a4 : Value} {x : Int32} (hT : T ≤ 60) (hq : q < T) (h5 : g1 91 5 = nI q) (h3 : g1 92 3 = nI T) : zXf zT znl (d + 59) 149 39 [.ref 91, .int x, a2, a3, a4] [.int (nI 1)] g1 = some (some (.int ((-10) - nI q)), zup g1 92 3 (nI 0)) := by
  have n5 : ∀ v, zup g1 92 3 v 91 = g1 91 := fun v => zup_row_ne (by decide)
  have ne : ¬ nI q = nI T := nI_ne (by omega) (by omega) (by omega)
  have n10 : ¬ nI 1 = nI 0 := by decide
  simp only [q149_39, q149_42, q149_43, q149_46, q149_47, q149_50, q149_51, q149_52, q149_59, q149_60, q149_61, q149_62, q149_65, q149_66, q149_67, q149_68, q149_69, q149_72, q149_74, q149_75, q149_78, q149_79, gf_M0, gf_M5, ald_n92 (show 3 < 488 by decide), ast_n92 (show 3 < 488 by decide), n5, h5, h3, ne, n10, rc_M, zn1_0, if_true, if_false, ↓reduceIte, Option.bind_some, Option.toList_some, Option.toList_none, List.cons_append, List.nil_append, zB_go, zB_end, zB_no, zokv_i, zokv_r, zokv_n, eq_self]
theorem w149_l {f n : Nat} {a1 a2 : Value} (hf : f + 1 + 2 * n < 488) (hn : n ≤ 60) : ∀ (m i : Nat) (g : zH), i + m = 2 * n → g 91 7 = nI n → ∃ g', zXf zT znl (d + 59) 149 102 [.ref 91, a1, a2, .int (nI f), .int (nI i)] [] g = some (some (.int (nI 1)), g') ∧ (∀ j, i ≤ j → j < 2 * n → g' 92 (f + 1 + j) = g 96 j) ∧ (∀ j, ¬ (f + 1 + i ≤ j ∧ j < f + 1 + 2 * n) → g' 92 j = g 92 j) ∧ ∀ a, a ≠ 92 → g' a = g a := by
  intro m
  induction m with
  | zero =>
    intro i g hi h7
    have le : nI (2 * n) ≤ nI i := by rw [show i = 2 * n by omega]; exact Int32.le_refl _
    refine ⟨g, ?_, fun j h1 h2 => absurd h1 (by omega), fun _ _ => rfl, fun _ _ => rfl⟩
    rw [q149_102]
    simp only [q149_104, q149_105, q149_106, q149_109, q149_110, q149_137, q149_138, gf_M7, h7, pk_mul, le, rc_M, zn1_0, if_true, if_false, ↓reduceIte, Option.bind_some, Option.toList_some, Option.toList_none, List.cons_append, List.nil_append, zB_go, zB_end, zB_no, zokv_i, zokv_r, zokv_n, eq_self]
  | succ m ih =>
    intro i g hi h7
    have le : ¬ nI (2 * n) ≤ nI i := nI_ge (by omega) (by omega)
    obtain ⟨g', p1, p2, p3, p4⟩ := ih (i + 1) (zup g 92 (f + 1 + i) (g 96 i)) (by omega) (by rw [zup_row_ne (by decide)]; exact h7)
    refine ⟨g', ?_, fun j h1 h2 => ?_, fun j hj => ?_, fun a ha => by rw [p4 a ha, zup_row_ne ha]⟩
    · rw [← p1, q149_102]
      simp only [q149_104, q149_105, q149_106, q149_109, q149_110, q149_113, q149_114, q149_117, q149_118, q149_119, q149_120, q149_122, q149_123, q149_124, q149_127, q149_129, q149_130, q149_131, q149_134, gf_M0, gf_M7, gf_M9, h7, pk_mul, le, nI_add, ald_n96 (show i < 124 by omega), ast_n92 (show f + 1 + i < 488 by omega), rc_M, zn1_0, if_true, if_false, ↓reduceIte, Option.bind_some, Option.toList_some, Option.toList_none, List.cons_append, List.nil_append, zB_go, zB_end, zB_no, zokv_i, zokv_r, zokv_n, eq_self]
    · by_cases y : j = i
      · subst y
        rw [p3 _ (by omega), zup_at]
      · rw [p2 j (by omega) h2, zup_row_ne (by decide)]
    · rw [p3 j (by omega), zup_o (by omega)]
theorem w149_ok {g1 : zH} {n : Nat} {a2 a3 a4 : Value} (hu : u < 2) (hT : T ≤ 60) (h5 : g1 91 5 = nI T) (h3 : g1 92 3 = nI T) (h7 : g1 91 7 = nI n) (hn : n ≤ 60) : ∃ g', zXf zT znl (d + 59) 149 39 [.ref 91, .int (nI u), a2, a3, a4] [.int (nI 1)] g1 = some (some (.int (nI 1)), g') ∧ g' 92 (154 + 125 * u) = nI n ∧ (∀ j, j < 2 * n → g' 92 (154 + 125 * u + 1 + j) = g1 96 j) ∧ (∀ j, ¬ (154 + 125 * u ≤ j ∧ j < 154 + 125 * u + 1 + 2 * n) → g' 92 j = zud (g1 92) 3 (nI 0) j) ∧ ∀ a, a ≠ 92 → g' a = g1 a := by
  have n10 : ¬ nI 1 = nI 0 := by decide
  have la : (nI 154 + nI 125 * nI u) = nI (154 + 125 * u) := by rw [pk_mul, nI_add]
  have n5 : ∀ v, zup g1 92 3 v 91 = g1 91 := fun v => zup_row_ne (by decide)
  have n91 : ∀ (g : zH) k v, zup g 92 k v 91 = g 91 := fun g k v => zup_row_ne (by decide)
  obtain ⟨g', p1, p2, p3, p4⟩ := w149_l d (f := 154 + 125 * u) (n := n) (a1 := .int (nI u)) (a2 := .int (nI 1)) (by omega) hn (2 * n) 0 (zup (zup g1 92 3 (nI 0)) 92 (154 + 125 * u) (nI n)) (by omega) (by rw [n91, n91]; exact h7)
  refine ⟨g', ?_, by rw [p3 _ (by omega), zup_at], fun j hj => ?_, fun j hj => ?_, fun a ha => by rw [p4 a ha, zup_row_ne ha, zup_row_ne ha]⟩
  · rw [← p1]
    simp only [q149_39, q149_42, q149_43, q149_46, q149_47, q149_50, q149_51, q149_52, q149_55, q149_56, q149_60, q149_61, q149_62, q149_65, q149_66, q149_67, q149_68, q149_69, q149_80, q149_83, q149_85, q149_86, q149_87, q149_88, q149_89, q149_90, q149_93, q149_94, q149_95, q149_98, q149_99, q149_100, gf_M0, gf_M5, gf_M7, ald_n92 (show 3 < 488 by decide), ast_n92 (show 3 < 488 by decide), ast_n92 (show 154 + 125 * u < 488 by omega), la, n91, h5, h3, h7, n10, rc_M, zn1_0, if_true, if_false, ↓reduceIte, Option.bind_some, Option.toList_some, Option.toList_none, List.cons_append, List.nil_append, zB_go, zB_end, zB_no, zokv_i, zokv_r, zokv_n, eq_self]
  · rw [p2 j (Nat.zero_le _) hj, zup_row_ne (by decide), zup_row_ne (by decide)]
  · rw [p3 j (by omega), zup_o (by omega), zup_ud]
/-- what text leaves -/
theorem Rel_tx {h' : zH} {s' : Nat → Int32} {N mk : Nat} (R : Rel h) (e : h' 92 = s') (z : zI s' N mk) (r : zRW 1 s' h') (f : ∀ a, (a = 0 ∨ 25 ≤ a ∧ a < 49 ∨ 79 ≤ a ∧ a ≤ 80 ∨ 82 ≤ a ∧ a < 91 ∨ a = 93 ∨ a = 95 ∨ 101 ≤ a ∧ a ≤ 104) → h' a = h a) (g3 : h' 91 3 = h 91 3) (g15 : h' 91 15 = h 91 15) : Rel h' := by
  obtain ⟨-, -, e1, i, t, q⟩ := R
  exact ⟨⟨N, mk, by rw [e]; exact z⟩, by rw [e]; exact r, zE_f e1 fun a ha => f a (by omega), zIm_f i (fun a ha => f a (by omega)) g3, zTr_f t (fun a ha => f a (by omega)) g15, zSh_f q fun a ha => f a (by omega)⟩
theorem zRT_of {t : Nat} {ix : Int32 → Nat} {L : List (Int32 × Int32)} (ne : L ≠ []) (h4 : h t 4 = nI 1) (c : zct2 h t ix L) : zRT h t ix L := ⟨by rw [if_neg ne]; exact h4, c⟩
theorem ztx_is {s : Nat → Int32} {t : List (Int32 × Int32)} (hn : t.length ≤ 60) (e0 : s (154 + 125 * u) = nI t.length) (e : ∀ j q, t[j]? = some q → s (154 + 125 * u + 1 + 2 * j) = q.1 ∧ s (154 + 125 * u + 1 + (2 * j + 1)) = q.2) : ztx s u = t := by
  refine List.ext_getElem? fun j => ?_
  have l := ztx_len e0 hn
  unfold ztx at l ⊢
  rw [e0, nI_clamp (by omega), List.getElem?_map]
  by_cases y : j < t.length
  · rw [List.getElem?_range y]
    have k := e j t[j] (List.getElem?_eq_getElem y)
    rw [List.getElem?_eq_getElem y]
    show some (s (154 + 125 * u + 1 + 2 * j), s (154 + 125 * u + 2 + 2 * j)) = _
    rw [k.1, show 154 + 125 * u + 2 + 2 * j = 154 + 125 * u + 1 + (2 * j + 1) by omega, k.2]
  · rw [List.getElem?_eq_none (by rw [List.length_range]; omega), List.getElem?_eq_none (by omega)]
    rfl
theorem o19_s (hu : u < 2) (R : Rel h) : zOp (d + 60) 19 149 [.int (nI u)] h := by
  obtain ⟨⟨N, mk, z⟩, r, -⟩ := id R
  obtain ⟨T, hT, e3⟩ := z.2.2.1
  have h13 : h 1 13 = nI T := r.2.2.2.1.2.2.2.2.1.trans e3
  obtain ⟨tp, htp⟩ : ∃ tp : Nat → Nat, ∀ i, i < 60 → tp i < 256 ∧ h 92 (404 + i) = nI (tp i) := by
    refine ⟨fun i => (h 92 (404 + i)).toNatClampNeg, fun i hi => ?_⟩
    obtain ⟨b, hb, eb⟩ := z.2.2.2.2 i hi
    show (h 92 (404 + i)).toNatClampNeg < 256 ∧ _ = nI (h 92 (404 + i)).toNatClampNeg
    rw [eb, nI_clamp (by omega)]
    exact ⟨hb, rfl⟩
  have ht : ∀ i, i < 60 → tp i < 256 := fun i hi => (htp i hi).1
  have h23 : ∀ i, i < 60 → h 23 i = nI (tp i) := fun i hi => (r.2.2.2.2.1 i hi).trans (htp i hi).2
  obtain ⟨s0, s04⟩ := zrd0_s (T := T) (u := u) h23
  have J := zJ_up (tp := tp) (T := T) (u := u) (o := 0) (d + 43) (d + 45) hT ht (zJ_0 hu hT ht 5 0 (d + 43) (d + 45) rfl (by omega) (by omega)) 0 (Nat.zero_le _)
  have fr : ∀ {h1 : zH}, zCfr (zrd0 T u h) h1 → ∀ a, a ≠ 73 → a ≠ 74 → a ≠ 75 → a ≠ 76 → h1 a = h a := fun f a h1 h2 h3 h4 => (f.1 a h1 h2 h3 h4).trans (zrd0_ne h1 h2)
  have z3 : zI (zud (h 92) 3 (nI 0)) N mk := zI_w (zJ_udx (by omega) (by omega) z.1) z (fun y => absurd y (by omega)) (fun _ => ⟨0, by omega, rfl⟩) (fun y => absurd y (by omega)) (fun y => absurd y (by omega))
  have r3 : ∀ {h1 : zH}, (∀ a, a ≠ 73 → a ≠ 74 → a ≠ 75 → a ≠ 76 → h1 a = h a) → zRW 1 (zud (h 92) 3 (nI 0)) (zup h1 1 13 (nI 0)) := fun f => zRW_ud (by unfold zloc; omega) z.1.2.2.2.2.2.1 z.1.2.2.2.2.2.2 (zRW_keep r fun a h1 h2 _ _ _ _ => f a (by omega) (by omega) (by omega) (by omega))
  -- a fault
  have bad : ∀ (q : Nat) (h2 : zH), q < 1000 → (∀ a, a ≠ 73 → a ≠ 74 → a ≠ 75 → a ≠ 76 → h2 a = h a) → zCf zT znl (d + 59) 91 [.ref 73, .ref 23, .int (nI T), .ref (314 + 4 * u)] h = some (some (.int (nI q)), h2) → (∀ g, g 92 = h 92 → ∃ g1, zCf zT znl (d + 60) 149 [.ref 91, .int (nI u)] g = some (some (.int ((-10) - nI q)), zup g1 92 3 (nI 0)) ∧ (∀ a, a ≠ 91 → a ≠ 96 → g1 a = g a) ∧ ∀ j, j ≠ 5 → j ≠ 6 → j ≠ 7 → j ≠ 8 → g1 91 j = g 91 j) → zOp (d + 60) 19 149 [.int (nI u)] h := by
    intro q h2 hq f A B
    obtain ⟨g1, b1, b2, b3⟩ := B (zup h2 1 13 (nI 0)) (by rw [zup_row_ne (by decide)]; exact f 92 (by decide) (by decide) (by decide) (by decide))
    have k : ∀ a, a ≠ 1 → a ≠ 73 → a ≠ 74 → a ≠ 75 → a ≠ 76 → a ≠ 91 → a ≠ 92 → a ≠ 96 → zup g1 92 3 (nI 0) a = h a := fun a q1 q2 q3 q4 q5 q6 q7 q8 => by
      rw [zup_row_ne q7, b2 a q6 q8, zup_row_ne q1, f a q2 q3 q4 q5]
    have k91 : ∀ j, j ≠ 5 → j ≠ 6 → j ≠ 7 → j ≠ 8 → zup g1 92 3 (nI 0) 91 j = h 91 j := fun j q1 q2 q3 q4 => by
      rw [zup_row_ne (by decide), b3 j q1 q2 q3 q4, zup_row_ne (by decide), f 91 (by decide) (by decide) (by decide) (by decide)]
    have e92 : zup g1 92 3 (nI 0) 92 = zud (h 92) 3 (nI 0) := by
      rw [zup_ud, b2 92 (by decide) (by decide), zup_row_ne (by decide), f 92 (by decide) (by decide) (by decide) (by decide)]
    refine ⟨_, _, _, c19_f d hu hq h13 A, b1, Rel_tx R e92 z3 (zRW_keep (r3 f) fun a h1 h2 _ _ _ _ => by rw [zup_row_ne (by omega), b2 a (by omega) (by omega)]) (fun a ha => k a (by omega) (by omega) (by omega) (by omega) (by omega) (by omega) (by omega) (by omega)) (k91 3 (by decide) (by decide) (by decide) (by decide)) (k91 15 (by decide) (by decide) (by decide) (by decide))⟩
  have gs : ∀ g : zH, g 92 = h 92 → zMs tp T u 0 0 [] (zms0 u g) ∧ (∀ a, a ≠ 91 → zms0 u g a = g a) ∧ ∀ j, j ≠ 5 → j ≠ 6 → j ≠ 7 → j ≠ 8 → zms0 u g 91 j = g 91 j := fun g hg => zms0_s (by rw [hg]; exact e3) (fun i hi => by rw [hg]; exact (htp i hi).2)
  rcases J with ⟨q, t, ⟨r1, r2, rr, r4⟩, A, B⟩ | ⟨q, r2, A, B⟩
  · obtain ⟨h1, a1, s1, f1⟩ := A _ [] (Nat.le_refl _) s0
    have a91 := c91_in d hT hu a1
    by_cases qT : q = T
    · subst qT
      have a91' := a91.trans (w91_ok d s1)
      have ne : t ≠ [] := by
        intro y
        subst y
        exact absurd (r4 [] 0 rfl) (by show ¬ (0 = 1); decide)
      have tl : t.length ≤ 60 := by omega
      have s1' : zct2 h1 74 (zixu u) t := s1.2.2
      have h4 : h1 74 4 = nI 1 := f1.2.trans s04
      obtain ⟨H1, eH1⟩ : ∃ H, zup h1 1 13 (nI 0) = H := ⟨_, rfl⟩
      have rt : zRT H1 74 (zixu u) t := by
        rw [← eH1]
        exact zRT_row (zup_row_ne (by decide)) (zup_row_ne (by decide)) (zup_row_ne (by decide)) (zRT_of ne h4 s1')
      have ht13 : zTx (13 + 4 * u) := by
        obtain rfl | rfl : u = 0 ∨ u = 1 := by omega
        · exact zTx_W12 zW_1
        · exact zTx_W16 zW_1
      obtain ⟨h3, b1, b2, b3⟩ := c80 (d + 58) ht13 zTx_74 (Or.inl (by omega)) rt
      have c19' := c19_ok d hu h13 a91' (by rw [eH1]; exact b1)
      have k3 : ∀ a, a ≠ 1 → ¬ (13 + 4 * u ≤ a ∧ a < 13 + 4 * u + 3) → a ≠ 73 → a ≠ 74 → a ≠ 75 → a ≠ 76 → h3 a = h a := fun a q1 q2 q3 q4 q5 q6 => by
        rw [b3 a q2, ← eH1, zup_row_ne q1, fr f1 a q3 q4 q5 q6]
      obtain ⟨m1, m2, m3⟩ := gs h3 (k3 92 (by decide) (by omega) (by decide) (by decide) (by decide) (by decide))
      obtain ⟨g1, p1, p2, p3⟩ := B _ [] (Nat.le_refl _) m1
      have p2' : zMs tp q u q 0 t g1 := p2
      obtain ⟨x1, x2, x3, x4, x5, x6, x7⟩ := p2'
      obtain ⟨g2, y1, y2, y3, y4, y5⟩ := w149_ok d (g1 := g1) (n := t.length) (a2 := Value.null) (a3 := Value.null) (a4 := Value.null) hu hT x1 x5 x3 tl
      have g92 : g1 92 = h 92 := by
        rw [p3.1 92 (by decide) (by decide), m2 92 (by decide), k3 92 (by decide) (by omega) (by decide) (by decide) (by decide) (by decide)]
      rw [g92] at y4
      have k : ∀ a, a ≠ 91 → a ≠ 92 → a ≠ 96 → g2 a = h3 a := fun a q6 q7 q8 => by
        rw [y5 a q7, p3.1 a q6 q8, m2 a q6]
      have k91 : ∀ j, j ≠ 5 → j ≠ 6 → j ≠ 7 → j ≠ 8 → g2 91 j = h 91 j := fun j q1 q2 q3 q4 => by
        rw [y5 91 (by decide), p3.2 j q1 q2 q3, m3 j q1 q2 q3 q4, k3 91 (by decide) (by omega) (by decide) (by decide) (by decide) (by decide)]
      have tx : ztx (g2 92) u = t := ztx_is tl y2 fun j e hj => by
        have lt := zget_lt hj
        have w := x7 j e hj
        exact ⟨(y3 (2 * j) (by omega)).trans w.1, (y3 (2 * j + 1) (by omega)).trans w.2⟩
      have lo : ∀ i, (i < 154 ∨ 404 ≤ i) → g2 92 i = zud (h 92) 3 (nI 0) i := fun i hi => y4 i (by omega)
      have wf : zwf (zoku u) (ztx (g2 92) u) 0 := by
        rw [tx]
        have w := r4 [] 0 rfl
        rw [List.append_nil] at w
        exact w
      have t0 := z3.1.2.2.2.2.2.1
      have t1 := z3.1.2.2.2.2.2.2
      have r3' := r3 (h1 := h1) (fr f1)
      rw [eH1] at r3'
      obtain ⟨w0, w1, v0, v1⟩ : zTI zok0 (g2 92) 0 ∧ zTI zok1 (g2 92) 1 ∧ zRT h3 (1 + 12) zix0 (ztx (g2 92) 0) ∧ zRT h3 (1 + 16) zix1 (ztx (g2 92) 1) := by
        obtain rfl | rfl : u = 0 ∨ u = 1 := by omega
        · obtain ⟨i1, i2⟩ := zTI_al (s' := g2 92) (s := zud (h 92) 3 (nI 0)) (u := 1) (fun i h1 h2 => y4 i (by omega)) (by decide) t1
          refine ⟨⟨t.length, tl, y2, Or.inr wf⟩, i2, ?_, ?_⟩
          · rw [tx]; exact b2
          · rw [i1]; exact zRT_row (b3 _ (by decide)) (b3 _ (by decide)) (b3 _ (by decide)) r3'.2.2.2.2.2.2.2
        · obtain ⟨i1, i2⟩ := zTI_al (s' := g2 92) (s := zud (h 92) 3 (nI 0)) (u := 0) (fun i h1 h2 => y4 i (by omega)) (by decide) t0
          refine ⟨i2, ⟨t.length, tl, y2, Or.inr wf⟩, ?_, ?_⟩
          · rw [i1]; exact zRT_row (b3 _ (by decide)) (b3 _ (by decide)) (b3 _ (by decide)) r3'.2.2.2.2.2.2.1
          · rw [tx]; exact b2
      have zz := zI_ut z3 lo w0 w1
      have rr := zRW_ut r3' lo (fun a h1 h2 h3 h4 _ _ _ _ => b3 a (by omega)) v0 v1
      refine ⟨nI 1, h3, g2, c19', ?_, Rel_tx R rfl zz (zRW_keep rr fun a h1 h2 _ _ _ _ => k a (by omega) (by omega) (by omega)) (fun a ha => by rw [k a (by omega) (by omega) (by omega), k3 a (by omega) (by omega) (by omega) (by omega) (by omega) (by omega)]) (k91 3 (by decide) (by decide) (by decide) (by decide)) (k91 15 (by decide) (by decide) (by decide) (by decide))⟩
      exact (c149_in d hu p1).trans y1
    · have lt : q < T := by omega
      refine bad q _ (by omega) (fun a h1 h2 h3 h4 => by rw [zup_row_ne h1, fr f1 a h1 h2 h3 h4]) (a91.trans (w91_pt d hT lt s1)) fun g hg => ?_
      obtain ⟨m1, m2, m3⟩ := gs g hg
      obtain ⟨g1, p1, p2, p3⟩ := B _ [] (Nat.le_refl _) m1
      refine ⟨g1, (c149_in d hu p1).trans (w149_pt d hT lt p2.1 p2.2.2.2.2.1), fun a h1 h2 => by rw [p3.1 a h1 h2, m2 a h1], fun j h1 h2 h3 h4 => by rw [p3.2 j h1 h2 h3, m3 j h1 h2 h3 h4]⟩
  · obtain ⟨h1, a1, s1, f1⟩ := A _ [] (Nat.le_refl _) s0
    refine bad q h1 (by omega) (fr f1) ((c91_in d hT hu a1).trans (w91_f d (by omega) s1)) fun g hg => ?_
    obtain ⟨m1, m2, m3⟩ := gs g hg
    obtain ⟨g1, p1, p2, p3⟩ := B _ [] (Nat.le_refl _) m1
    refine ⟨g1, (c149_in d hu p1).trans (w149_f d p2), fun a h1 h2 => by rw [p3.1 a h1 h2, m2 a h1], fun j h1 h2 h3 h4 => by rw [p3.2 j h1 h2 h3, m3 j h1 h2 h3 h4]⟩
theorem o19 (R : Rel h) (x : Int32) : zOp (d + 60) 19 149 [.int x] h := by
  rcases zwi_c x 1 (by decide) with e | ⟨u, hu, rfl, e⟩
  · exact zOp_k 1 R (by simp only [e19, q19_0, q19_1, q19_2, q19_3, q19_6, q19_9, q19_10, q19_11, q19_14, c0, e, ce_1, ce_2, ce_3, ce_4, ce_5, ce_6, cm_1, cm_2, cm_3, cm_4, cm_5, cm_6, rc_L, rc_M, zn1_0, if_true, if_false, ↓reduceIte, Option.bind_some, Option.toList_some, Option.toList_none, List.cons_append, List.nil_append, zB_go, zB_end, zB_no, zokv_i, zokv_r, zokv_n, eq_self]) fun g hg => by simp only [e149, q149_0, q149_1, q149_2, q149_3, q149_6, q149_9, q149_10, q149_11, q149_14, c107, e, ce_1, ce_2, ce_3, ce_4, ce_5, ce_6, cm_1, cm_2, cm_3, cm_4, cm_5, cm_6, rc_L, rc_M, zn1_0, if_true, if_false, ↓reduceIte, Option.bind_some, Option.toList_some, Option.toList_none, List.cons_append, List.nil_append, zB_go, zB_end, zB_no, zokv_i, zokv_r, zokv_n, eq_self]
  · exact o19_s d (by omega) R
end O96
