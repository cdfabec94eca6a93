/-! ===== share; count ===== -/
def zrich (f : Nat → Int32) : Nat → Nat → Nat → Nat
  | 0, _, w => w
  | m + 1, i, w => if f i ≤ f w then zrich f m (i + 1) w else zrich f m (i + 1) i
def zpoor (f : Nat → Int32) : Nat → Nat → Nat → Nat
  | 0, _, w => w
  | m + 1, i, w => if f w ≤ f i then zpoor f m (i + 1) w else zpoor f m (i + 1) i
theorem zrich_lt {f : Nat → Int32} {B : Nat} : ∀ (m i w : Nat), i + m ≤ B → w < B → zrich f m i w < B
  | 0, _, _, _, h => h
  | m + 1, i, w, h, h2 => by
    unfold zrich
    split
    · exact zrich_lt m (i + 1) w (by omega) h2
    · exact zrich_lt m (i + 1) i (by omega) (by omega)
theorem zpoor_lt {f : Nat → Int32} {B : Nat} : ∀ (m i w : Nat), i + m ≤ B → w < B → zpoor f m i w < B
  | 0, _, _, _, h => h
  | m + 1, i, w, h, h2 => by
    unfold zpoor
    split
    · exact zpoor_lt m (i + 1) w (by omega) h2
    · exact zpoor_lt m (i + 1) i (by omega) (by omega)
def zpu (s : Nat → Int32) (k : Nat) : Int32 := s (90 + 8 * k + 6)
def zrv (s : Nat → Int32) : Int32 → Nat → Nat → Int32
  | a, _, 0 => a
  | a, c, n + 1 => zrv s (if s (10 + c) = nI 1 then a + nI 1 else a) (c + 1) n
section O72
variable (d : Nat) {h : zH}
theorem w74 {w N mk : Nat} {s : Nat → Int32} (hw : zW w) (z : zJ s N mk) (r : zRW w s h) : ∀ (m i o : Nat), i + m = N → o < N → zXf zT znl d 74 4 [.ref w, .int (nI o), .int (nI i)] [] h = some (some (.int (nI (zrich (zpu s) m i o))), h) := by
  have h12 : h w 12 = nI N := r.2.2.2.1.2.2.2.1.trans z.1
  have hN8 := z.2.1
  intro m
  induction m with
  | zero =>
    intro i o hi ho
    have le : nI N ≤ nI i := by rw [show i = N by omega]; exact Int32.le_refl _
    rw [q74_4]
    simp only [q74_5, q74_6, q74_9, q74_41, q74_42, gf_W12 hw, h12, le, zn1_0, if_true, if_false, ↓reduceIte, Option.bind_some, Option.toList_some, Option.toList_none, List.cons_append, List.nil_append, zB_go, zB_end, zB_no, zokv_i, zokv_r, zokv_n, eq_self]
    rfl
  | succ m ih =>
    intro i o hi ho
    have le : ¬ nI N ≤ nI i := nI_ge (by omega) (by omega)
    have i8 : i < 8 := by omega
    have o8 : o < 8 := by omega
    have v1 : h (w + 4 + i) 6 = zpu s i := r.2.2.1 i i8 6 (by decide)
    have v2 : h (w + 4 + o) 6 = zpu s o := r.2.2.1 o o8 6 (by decide)
    unfold zrich
    by_cases q : zpu s i ≤ zpu s o
    · rw [if_pos q, ← ih (i + 1) o (by omega) ho, q74_4]
      simp only [q74_5, q74_6, q74_9, q74_12, q74_13, q74_16, q74_17, q74_18, q74_20, q74_21, q74_22, q74_25, q74_26, q74_27, q74_29, q74_30, q74_35, q74_38, gf_W12 hw, gf_W2 hw, aal_W hw i8, aal_W hw o8, ald_row hw i8 (show 6 < 8 by decide), ald_row hw o8 (show 6 < 8 by decide), v1, v2, q, h12, le, nI_add, zn1_0, if_true, if_false, ↓reduceIte, Option.bind_some, Option.toList_some, Option.toList_none, List.cons_append, List.nil_append, zB_go, zB_end, zB_no, zokv_i, zokv_r, zokv_n, eq_self]
    · rw [if_neg q, ← ih (i + 1) i (by omega) (by omega), q74_4]
      simp only [q74_5, q74_6, q74_9, q74_12, q74_13, q74_16, q74_17, q74_18, q74_20, q74_21, q74_22, q74_25, q74_26, q74_27, q74_29, q74_30, q74_33, q74_34, q74_35, q74_38, gf_W12 hw, gf_W2 hw, aal_W hw i8, aal_W hw o8, ald_row hw i8 (show 6 < 8 by decide), ald_row hw o8 (show 6 < 8 by decide), v1, v2, q, h12, le, nI_add, zn1_0, if_true, if_false, ↓reduceIte, Option.bind_some, Option.toList_some, Option.toList_none, List.cons_append, List.nil_append, zB_go, zB_end, zB_no, zokv_i, zokv_r, zokv_n, eq_self]
theorem w75 {w N mk : Nat} {s : Nat → Int32} (hw : zW w) (z : zJ s N mk) (r : zRW w s h) : ∀ (m i o : Nat), i + m = N → o < N → zXf zT znl (d + 1) 75 12 [.ref w, .int (zpu s o), .int (nI i)] [] h = some (some (.int (zpu s (zpoor (zpu s) m i o))), h) := by
  have h12 : h w 12 = nI N := r.2.2.2.1.2.2.2.1.trans z.1
  have hN8 := z.2.1
  intro m
  induction m with
  | zero =>
    intro i o hi ho
    have le : nI N ≤ nI i := by rw [show i = N by omega]; exact Int32.le_refl _
    rw [q75_12]
    simp only [q75_13, q75_14, q75_17, q75_40, q75_41, gf_W12 hw, h12, le, zn1_0, if_true, if_false, ↓reduceIte, Option.bind_some, Option.toList_some, Option.toList_none, List.cons_append, List.nil_append, zB_go, zB_end, zB_no, zokv_i, zokv_r, zokv_n, eq_self]
    rfl
  | succ m ih =>
    intro i o hi ho
    have le : ¬ nI N ≤ nI i := nI_ge (by omega) (by omega)
    have i8 : i < 8 := by omega
    have v1 : h (w + 4 + i) 6 = zpu s i := r.2.2.1 i i8 6 (by decide)
    unfold zpoor
    by_cases q : zpu s o ≤ zpu s i
    · have q' : ¬ zpu s i < zpu s o := Int32.not_lt.mpr q
      rw [if_pos q, ← ih (i + 1) o (by omega) ho, q75_12]
      simp only [q75_13, q75_14, q75_17, q75_20, q75_21, q75_22, q75_25, q75_26, q75_27, q75_29, q75_30, q75_33, q75_34, q75_37, gf_W12 hw, gf_W2 hw, aal_W hw i8, ald_row hw i8 (show 6 < 8 by decide), v1, c206, zmin, q', h12, le, nI_add, zn1_0, if_true, if_false, ↓reduceIte, Option.bind_some, Option.toList_some, Option.toList_none, List.cons_append, List.nil_append, zB_go, zB_end, zB_no, zokv_i, zokv_r, zokv_n, eq_self]
    · have q' : zpu s i < zpu s o := Int32.not_le.mp q
      rw [if_neg q, ← ih (i + 1) i (by omega) (by omega), q75_12]
      simp only [q75_13, q75_14, q75_17, q75_20, q75_21, q75_22, q75_25, q75_26, q75_27, q75_29, q75_30, q75_33, q75_34, q75_37, gf_W12 hw, gf_W2 hw, aal_W hw i8, ald_row hw i8 (show 6 < 8 by decide), v1, c206, zmin, q', h12, le, nI_add, zn1_0, if_true, if_false, ↓reduceIte, Option.bind_some, Option.toList_some, Option.toList_none, List.cons_append, List.nil_append, zB_go, zB_end, zB_no, zokv_i, zokv_r, zokv_n, eq_self]
theorem w180 {N mk : Nat} {s : Nat → Int32} {x : Int32} (e92 : h 92 = s) (z : zJ s N mk) : ∀ (m i o l : Nat), i + m = N → o < N → l < N → zXf zT znl (d + 1) 180 37 [.ref 91, .int x, .int (nI o), .int (nI l), .int (nI i)] [] h = zXf zT znl (d + 1) 180 104 [.ref 91, .int x, .int (nI (zrich (zpu s) m i o)), .int (nI (zpoor (zpu s) m i l)), .int (nI N)] [] h := by
  have m0 := z.1
  have hN8 := z.2.1
  intro m
  induction m with
  | zero =>
    intro i o l hi ho hl
    have le : nI N ≤ nI i := by rw [show i = N by omega]; exact Int32.le_refl _
    rw [q180_37]
    simp only [q180_39, q180_40, q180_43, q180_44, q180_45, gf_M0, ald_n92 (show 0 < 488 by decide), e92, m0, le, zn1_0, if_true, if_false, ↓reduceIte, Option.bind_some, Option.toList_some, Option.toList_none, List.cons_append, List.nil_append, zB_go, zB_end, zB_no, zokv_i, zokv_r, zokv_n, eq_self]
    rw [show i = N by omega]
    rfl
  | succ m ih =>
    intro i o l hi ho hl
    have le : ¬ nI N ≤ nI i := nI_ge (by omega) (by omega)
    have v1 := fun d => c112 d h (show i < 8 by omega) (show 6 < 8 by decide)
    have v2 := fun d => c112 d h (show o < 8 by omega) (show 6 < 8 by decide)
    have v3 := fun d => c112 d h (show l < 8 by omega) (show 6 < 8 by decide)
    have x1 : s (90 + 8 * i + 6) = zpu s i := rfl
    have x2 : s (90 + 8 * o + 6) = zpu s o := rfl
    have x3 : s (90 + 8 * l + 6) = zpu s l := rfl
    unfold zrich zpoor
    by_cases q : zpu s i ≤ zpu s o
    · by_cases q2 : zpu s l ≤ zpu s i
      · rw [if_pos q, if_pos q2, ← ih (i + 1) o l (by omega) ho hl, q180_37]
        simp only [q180_39, q180_40, q180_43, q180_44, q180_45, q180_48, q180_49, q180_51, q180_53, q180_56, q180_57, q180_58, q180_60, q180_63, q180_71, q180_72, q180_73, q180_74, q180_76, q180_78, q180_81, q180_82, q180_83, q180_85, q180_88, q180_96, q180_97, q180_98, q180_101, gf_M0, ald_n92 (show 0 < 488 by decide), v1, v2, v3, e92, x1, x2, x3, m0, le, q, q2, rc_M, nI_add, zn1_0, if_true, if_false, ↓reduceIte, Option.bind_some, Option.toList_some, Option.toList_none, List.cons_append, List.nil_append, zB_go, zB_end, zB_no, zokv_i, zokv_r, zokv_n, eq_self]
      · rw [if_pos q, if_neg q2, ← ih (i + 1) o i (by omega) ho (by omega), q180_37]
        simp only [q180_39, q180_40, q180_43, q180_44, q180_45, q180_48, q180_49, q180_51, q180_53, q180_56, q180_57, q180_58, q180_60, q180_63, q180_71, q180_72, q180_73, q180_74, q180_76, q180_78, q180_81, q180_82, q180_83, q180_85, q180_88, q180_91, q180_93, q180_97, q180_98, q180_101, gf_M0, ald_n92 (show 0 < 488 by decide), v1, v2, v3, e92, x1, x2, x3, m0, le, q, q2, rc_M, nI_add, zn1_0, if_true, if_false, ↓reduceIte, Option.bind_some, Option.toList_some, Option.toList_none, List.cons_append, List.nil_append, zB_go, zB_end, zB_no, zokv_i, zokv_r, zokv_n, eq_self]
    · by_cases q2 : zpu s l ≤ zpu s i
      · rw [if_neg q, if_pos q2, ← ih (i + 1) i l (by omega) (by omega) hl, q180_37]
        simp only [q180_39, q180_40, q180_43, q180_44, q180_45, q180_48, q180_49, q180_51, q180_53, q180_56, q180_57, q180_58, q180_60, q180_63, q180_66, q180_68, q180_72, q180_73, q180_74, q180_76, q180_78, q180_81, q180_82, q180_83, q180_85, q180_88, q180_96, q180_97, q180_98, q180_101, gf_M0, ald_n92 (show 0 < 488 by decide), v1, v2, v3, e92, x1, x2, x3, m0, le, q, q2, rc_M, nI_add, zn1_0, if_true, if_false, ↓reduceIte, Option.bind_some, Option.toList_some, Option.toList_none, List.cons_append, List.nil_append, zB_go, zB_end, zB_no, zokv_i, zokv_r, zokv_n, eq_self]
      · rw [if_neg q, if_neg q2, ← ih (i + 1) i i (by omega) (by omega) (by omega), q180_37]
        simp only [q180_39, q180_40, q180_43, q180_44, q180_45, q180_48, q180_49, q180_51, q180_53, q180_56, q180_57, q180_58, q180_60, q180_63, q180_66, q180_68, q180_72, q180_73, q180_74, q180_76, q180_78, q180_81, q180_82, q180_83, q180_85, q180_88, q180_91, q180_93, q180_97, q180_98, q180_101, gf_M0, ald_n92 (show 0 < 488 by decide), v1, v2, v3, e92, x1, x2, x3, m0, le, q, q2, rc_M, nI_add, zn1_0, if_true, if_false, ↓reduceIte, Option.bind_some, Option.toList_some, Option.toList_none, List.cons_append, List.nil_append, zB_go, zB_end, zB_no, zokv_i, zokv_r, zokv_n, eq_self]
theorem o34 (R : Rel h) (x : Int32) : zOp (d + 60) 34 180 [.int x] h := by
  obtain ⟨⟨N, mk, z⟩, r, -⟩ := id R
  have m0 := z.1.1
  have hN8 := z.1.2.1
  have h12 : h 1 12 = nI N := r.2.2.2.1.2.2.2.1.trans m0
  rcases zwi_c x 1 (by decide) with e | ⟨c, hc, rfl, e⟩
  · exact zOp_k 1 R (by simp only [e34, q34_0, q34_1, q34_2, q34_3, q34_6, q34_9, q34_10, q34_11, q34_14, c0, e, ce_1, ce_2, ce_3, ce_4, ce_5, ce_6, cm_1, cm_2, cm_3, cm_4, cm_5, cm_6, rc_L, rc_M, zn1_0, if_true, if_false, ↓reduceIte, Option.bind_some, Option.toList_some, Option.toList_none, List.cons_append, List.nil_append, zB_go, zB_end, zB_no, zokv_i, zokv_r, zokv_n, eq_self]) fun g hg => by simp only [e180, q180_0, q180_1, q180_2, q180_3, q180_6, q180_9, q180_10, q180_11, q180_14, c107, e, ce_1, ce_2, ce_3, ce_4, ce_5, ce_6, cm_1, cm_2, cm_3, cm_4, cm_5, cm_6, rc_L, rc_M, zn1_0, if_true, if_false, ↓reduceIte, Option.bind_some, Option.toList_some, Option.toList_none, List.cons_append, List.nil_append, zB_go, zB_end, zB_no, zokv_i, zokv_r, zokv_n, eq_self]
  by_cases n0 : N = 0
  · subst n0
    exact zOp_k 2 R (by simp only [e34, q34_0, q34_1, q34_2, q34_3, q34_6, q34_15, q34_16, q34_19, q34_22, q34_25, q34_26, q34_27, q34_30, c0, e, gf_L0, gf_W12 zW_1, h12, ce_1, ce_2, ce_3, ce_4, ce_5, ce_6, cm_1, cm_2, cm_3, cm_4, cm_5, cm_6, rc_L, rc_M, zn1_0, if_true, if_false, ↓reduceIte, Option.bind_some, Option.toList_some, Option.toList_none, List.cons_append, List.nil_append, zB_go, zB_end, zB_no, zokv_i, zokv_r, zokv_n, eq_self]) fun g hg => by simp only [e180, q180_0, q180_1, q180_2, q180_3, q180_6, q180_15, q180_16, q180_19, q180_20, q180_21, q180_24, q180_25, q180_26, q180_29, c107, e, gf_M0, ald_n92 (show 0 < 488 by decide), hg 92 (by decide), m0, ce_1, ce_2, ce_3, ce_4, ce_5, ce_6, cm_1, cm_2, cm_3, cm_4, cm_5, cm_6, rc_L, rc_M, zn1_0, if_true, if_false, ↓reduceIte, Option.bind_some, Option.toList_some, Option.toList_none, List.cons_append, List.nil_append, zB_go, zB_end, zB_no, zokv_i, zokv_r, zokv_n, eq_self]
  have nn : ¬ nI N = nI 0 := nI_ne n0 (by omega) (by decide)
  have v74 := fun d => w74 d zW_1 z.1 r (N - 1) 1 0 (by omega) (by omega)
  have v75 := fun d => w75 d zW_1 z.1 r (N - 1) 1 0 (by omega) (by omega)
  have c74 : ∀ d, zCf zT znl (d + 1) 74 [.ref 1] h = some (some (.int (nI (zrich (zpu (h 92)) (N - 1) 1 0))), h) := fun d => by simp only [e74, q74_0, q74_1, q74_2, q74_3, v74, Option.bind_some, Option.toList_some, Option.toList_none, List.cons_append, List.nil_append, zB_go, zB_end, zB_no, zokv_i, zokv_r, zokv_n, eq_self]
  have x0 : h (1 + 4 + 0) 6 = zpu (h 92) 0 := r.2.2.1 0 (by decide) 6 (by decide)
  have c75 : ∀ d, zCf zT znl (d + 2) 75 [.ref 1] h = some (some (.int (zpu (h 92) (zpoor (zpu (h 92)) (N - 1) 1 0))), h) := fun d => by simp only [e75, q75_0, q75_1, q75_4, q75_5, q75_6, q75_8, q75_9, q75_10, q75_11, gf_W2 zW_1, aal_W zW_1 (show 0 < 8 by decide), ald_row zW_1 (show 0 < 8 by decide) (show 6 < 8 by decide), x0, v75, Option.bind_some, Option.toList_some, Option.toList_none, List.cons_append, List.nil_append, zB_go, zB_end, zB_no, zokv_i, zokv_r, zokv_n, eq_self]
  have b1 : zrich (zpu (h 92)) (N - 1) 1 0 < N := zrich_lt _ _ _ (by omega) (by omega)
  have b2 : zpoor (zpu (h 92)) (N - 1) 1 0 < N := zpoor_lt _ _ _ (by omega) (by omega)
  have w := w180 (d + 58) (h := h) (x := nI c) rfl z.1 (N - 1) 1 0 0 (by omega) (by omega) (by omega)
  generalize zrich (zpu (h 92)) (N - 1) 1 0 = o at *
  generalize zpoor (zpu (h 92)) (N - 1) 1 0 = l at *
  have xo : h (1 + 4 + o) 6 = h 92 (90 + 8 * o + 6) := r.2.2.1 o (by omega) 6 (by decide)
  have v2 := fun d => c112 d h (show o < 8 by omega) (show 6 < 8 by decide)
  have v3 := fun d => c112 d h (show l < 8 by omega) (show 6 < 8 by decide)
  obtain rfl | rfl : c = 0 ∨ c = 1 := by omega
  · have ne : ¬ nI 0 = nI 1 := by decide
    refine zOp_p (x := h 92 (90 + 8 * o + 6) - h 92 (90 + 8 * l + 6)) R ?_ ?_
    · simp only [e34, q34_0, q34_1, q34_2, q34_3, q34_6, q34_15, q34_16, q34_19, q34_22, q34_31, q34_32, q34_35, q34_38, q34_39, q34_40, q34_41, q34_46, q34_47, q34_50, q34_53, q34_54, q34_55, q34_57, q34_58, q34_59, q34_62, q34_65, q34_66, c0, e, gf_L0, gf_W12 zW_1, gf_W2 zW_1, h12, nn, ne, c74, c75, aal_W zW_1 (show o < 8 by omega), ald_row zW_1 (show o < 8 by omega) (show 6 < 8 by decide), xo, zpu, rc_W zW_1, ce_1, ce_2, ce_3, ce_4, ce_5, ce_6, cm_1, cm_2, cm_3, cm_4, cm_5, cm_6, rc_L, rc_M, zn1_0, if_true, if_false, ↓reduceIte, Option.bind_some, Option.toList_some, Option.toList_none, List.cons_append, List.nil_append, zB_go, zB_end, zB_no, zokv_i, zokv_r, zokv_n, eq_self]
    · simp only [e180, q180_0, q180_1, q180_2, q180_3, q180_6, q180_15, q180_16, q180_19, q180_20, q180_21, q180_30, q180_31, q180_32, q180_33, q180_34, q180_35, q180_104, q180_105, q180_108, q180_109, q180_110, q180_112, q180_115, q180_116, q180_117, q180_119, q180_122, q180_123, q180_127, c107, e, gf_M0, ald_n92 (show 0 < 488 by decide), m0, nn, w, v2, v3, ce_1, ce_2, ce_3, ce_4, ce_5, ce_6, cm_1, cm_2, cm_3, cm_4, cm_5, cm_6, rc_L, rc_M, zn1_0, if_true, if_false, ↓reduceIte, Option.bind_some, Option.toList_some, Option.toList_none, List.cons_append, List.nil_append, zB_go, zB_end, zB_no, zokv_i, zokv_r, zokv_n, eq_self]
  · refine zOp_p (x := nI o) R ?_ ?_
    · simp only [e34, q34_0, q34_1, q34_2, q34_3, q34_6, q34_15, q34_16, q34_19, q34_22, q34_31, q34_32, q34_35, q34_38, q34_39, q34_40, q34_41, q34_44, q34_45, c0, e, gf_L0, gf_W12 zW_1, h12, nn, c74, rc_W zW_1, ce_1, ce_2, ce_3, ce_4, ce_5, ce_6, cm_1, cm_2, cm_3, cm_4, cm_5, cm_6, rc_L, rc_M, zn1_0, if_true, if_false, ↓reduceIte, Option.bind_some, Option.toList_some, Option.toList_none, List.cons_append, List.nil_append, zB_go, zB_end, zB_no, zokv_i, zokv_r, zokv_n, eq_self]
    · simp only [e180, q180_0, q180_1, q180_2, q180_3, q180_6, q180_15, q180_16, q180_19, q180_20, q180_21, q180_30, q180_31, q180_32, q180_33, q180_34, q180_35, q180_104, q180_105, q180_126, q180_127, c107, e, gf_M0, ald_n92 (show 0 < 488 by decide), m0, nn, w, ce_1, ce_2, ce_3, ce_4, ce_5, ce_6, cm_1, cm_2, cm_3, cm_4, cm_5, cm_6, rc_L, rc_M, zn1_0, if_true, if_false, ↓reduceIte, Option.bind_some, Option.toList_some, Option.toList_none, List.cons_append, List.nil_append, zB_go, zB_end, zB_no, zokv_i, zokv_r, zokv_n, eq_self]
theorem w77 {s : Nat → Int32} (r : zRW 1 s h) : ∀ (m c : Nat) (a : Int32), c + m = 80 → zXf zT znl d 77 4 [.ref 1, .int a, .int (nI c)] [] h = some (some (.int (zrv s a c m)), h) := by
  intro m
  induction m with
  | zero =>
    intro c a hc
    have le : nI 80 ≤ nI c := by rw [show c = 80 by omega]; exact Int32.le_refl _
    rw [q77_4]
    simp only [q77_5, q77_7, q77_29, q77_30, le, zn1_0, if_true, if_false, ↓reduceIte, Option.bind_some, Option.toList_some, Option.toList_none, List.cons_append, List.nil_append, zB_go, zB_end, zB_no, zokv_i, zokv_r, zokv_n, eq_self]
    rfl
  | succ m ih =>
    intro c a hc
    have le : ¬ nI 80 ≤ nI c := nI_ge (by omega) (by decide)
    have g1 : h (1 + 1) c = s (10 + c) := r.1 c (by omega)
    unfold zrv
    by_cases q : s (10 + c) = nI 1
    · rw [if_pos q, ← ih (c + 1) _ (by omega), q77_4]
      simp only [q77_5, q77_7, q77_10, q77_11, q77_14, q77_15, q77_16, q77_17, q77_20, q77_23, q77_26, gf_W0 zW_1, ald_W1 zW_1 (show c < 80 by omega), le, g1, q, nI_add, zn1_0, if_true, if_false, ↓reduceIte, Option.bind_some, Option.toList_some, Option.toList_none, List.cons_append, List.nil_append, zB_go, zB_end, zB_no, zokv_i, zokv_r, zokv_n, eq_self]
    · rw [if_neg q, ← ih (c + 1) _ (by omega), q77_4]
      simp only [q77_5, q77_7, q77_10, q77_11, q77_14, q77_15, q77_16, q77_17, q77_23, q77_26, gf_W0 zW_1, ald_W1 zW_1 (show c < 80 by omega), le, g1, q, nI_add, zn1_0, if_true, if_false, ↓reduceIte, Option.bind_some, Option.toList_some, Option.toList_none, List.cons_append, List.nil_append, zB_go, zB_end, zB_no, zokv_i, zokv_r, zokv_n, eq_self]
theorem w202r {w : Int32} : ∀ (m c : Nat) (a : Int32), c + m = 80 → zXf zT znl (d + 1) 202 75 [.ref 91, .int w, .int a, .int (nI c)] [] h = some (some (.int (zrv (h 92) a c m)), h) := by
  intro m
  induction m with
  | zero =>
    intro c a hc
    have le : nI 80 ≤ nI c := by rw [show c = 80 by omega]; exact Int32.le_refl _
    rw [q202_75]
    simp only [q202_76, q202_78, q202_103, q202_104, le, zn1_0, if_true, if_false, ↓reduceIte, Option.bind_some, Option.toList_some, Option.toList_none, List.cons_append, List.nil_append, zB_go, zB_end, zB_no, zokv_i, zokv_r, zokv_n, eq_self]
    rfl
  | succ m ih =>
    intro c a hc
    have le : ¬ nI 80 ≤ nI c := nI_ge (by omega) (by decide)
    have c15 := fun (d : Nat) => c115 d h (show c < 478 by omega)
    unfold zrv
    by_cases q : h 92 (10 + c) = nI 1
    · rw [if_pos q, ← ih (c + 1) _ (by omega), q202_75]
      simp only [q202_76, q202_78, q202_81, q202_82, q202_83, q202_84, q202_87, q202_90, q202_91, q202_95, q202_96, q202_97, q202_100, c15, le, q, rc_M, nI_add, zn1_0, if_true, if_false, ↓reduceIte, Option.bind_some, Option.toList_some, Option.toList_none, List.cons_append, List.nil_append, zB_go, zB_end, zB_no, zokv_i, zokv_r, zokv_n, eq_self]
    · rw [if_neg q, ← ih (c + 1) _ (by omega), q202_75]
      simp only [q202_76, q202_78, q202_81, q202_82, q202_83, q202_84, q202_87, q202_94, q202_95, q202_96, q202_97, q202_100, c15, le, q, rc_M, zadd0, nI_add, zn1_0, if_true, if_false, ↓reduceIte, Option.bind_some, Option.toList_some, Option.toList_none, List.cons_append, List.nil_append, zB_go, zB_end, zB_no, zokv_i, zokv_r, zokv_n, eq_self]
theorem w76 {N mk : Nat} {s : Nat → Int32} (z : zJ s N mk) (r : zRW 1 s h) : ∀ (n j : Nat) (a : Int32), j + n = N → zXf zT znl d 76 4 [.ref 1, .int a, .int (nI j)] [] h = some (some (.int (zfsum (zpu s) a j n)), h) := by
  have h12 : h 1 12 = nI N := r.2.2.2.1.2.2.2.1.trans z.1
  have hN8 := z.2.1
  intro n
  induction n with
  | zero =>
    intro j a hj
    have le : nI N ≤ nI j := by rw [show j = N by omega]; exact Int32.le_refl _
    rw [q76_4]
    simp only [q76_5, q76_6, q76_9, q76_30, q76_31, gf_W12 zW_1, h12, le, zn1_0, if_true, if_false, ↓reduceIte, Option.bind_some, Option.toList_some, Option.toList_none, List.cons_append, List.nil_append, zB_go, zB_end, zB_no, zokv_i, zokv_r, zokv_n, eq_self]
    rfl
  | succ n ih =>
    intro j a hj
    have le : ¬ nI N ≤ nI j := nI_ge (by omega) (by omega)
    have j8 : j < 8 := by omega
    have v1 : h (1 + 4 + j) 6 = zpu s j := r.2.2.1 j j8 6 (by decide)
    show _ = some (some (Value.int (zfsum (zpu s) (a + zpu s j) (j + 1) n)), h)
    rw [← ih (j + 1) (a + zpu s j) (by omega), q76_4]
    simp only [q76_5, q76_6, q76_9, q76_12, q76_13, q76_14, q76_17, q76_18, q76_19, q76_21, q76_22, q76_23, q76_24, q76_27, gf_W12 zW_1, gf_W2 zW_1, aal_W zW_1 j8, ald_row zW_1 j8 (show 6 < 8 by decide), h12, le, v1, nI_add, zn1_0, if_true, if_false, ↓reduceIte, Option.bind_some, Option.toList_some, Option.toList_none, List.cons_append, List.nil_append, zB_go, zB_end, zB_no, zokv_i, zokv_r, zokv_n, eq_self]
theorem w202p {N mk : Nat} {w : Int32} {s : Nat → Int32} {a3 : Value} (e92 : h 92 = s) (z : zJ s N mk) : ∀ (n j : Nat) (a : Int32), j + n = N → zXf zT znl (d + 1) 202 133 [.ref 91, .int w, .int a, .int (nI j)] [] h = some (some (.int (zfsum (zpu s) a j n)), h) := by
  have m0 := z.1
  have hN8 := z.2.1
  intro n
  induction n with
  | zero =>
    intro j a hj
    have le : nI N ≤ nI j := by rw [show j = N by omega]; exact Int32.le_refl _
    rw [q202_133]
    simp only [q202_134, q202_135, q202_138, q202_139, q202_140, q202_159, q202_160, gf_M0, ald_n92 (show 0 < 488 by decide), e92, m0, le, zn1_0, if_true, if_false, ↓reduceIte, Option.bind_some, Option.toList_some, Option.toList_none, List.cons_append, List.nil_append, zB_go, zB_end, zB_no, zokv_i, zokv_r, zokv_n, eq_self]
    rfl
  | succ n ih =>
    intro j a hj
    have le : ¬ nI N ≤ nI j := nI_ge (by omega) (by omega)
    have v1 := fun d => c112 d h (show j < 8 by omega) (show 6 < 8 by decide)
    have x1 : s (90 + 8 * j + 6) = zpu s j := rfl
    show _ = some (some (Value.int (zfsum (zpu s) (a + zpu s j) (j + 1) n)), h)
    rw [← ih (j + 1) (a + zpu s j) (by omega), q202_133]
    simp only [q202_134, q202_135, q202_138, q202_139, q202_140, q202_143, q202_144, q202_145, q202_146, q202_148, q202_151, q202_152, q202_153, q202_156, gf_M0, ald_n92 (show 0 < 488 by decide), v1, e92, x1, m0, le, rc_M, nI_add, zn1_0, if_true, if_false, ↓reduceIte, Option.bind_some, Option.toList_some, Option.toList_none, List.cons_append, List.nil_append, zB_go, zB_end, zB_no, zokv_i, zokv_r, zokv_n, eq_self]
theorem o47 (R : Rel h) (x : Int32) : zOp (d + 60) 47 202 [.int x] h := by
  obtain ⟨⟨N, mk, z⟩, r, -, -, ⟨t, ht, t1, t2, t3⟩, -⟩ := id R
  obtain ⟨a1, a2, a3, ⟨b1, b2, b3, b4, b5, b6⟩, a5, a6, a7, a8⟩ := id r
  have m0 := z.1.1
  by_cases x0 : x = nI 0
  · subst x0
    exact zOp_p (x := h 92 0) R (by simp only [e47, q47_0, q47_1, q47_52, q47_53, q47_56, q47_59, gf_L0, gf_W12 zW_1, b4, zn1_0, if_true, if_false, ↓reduceIte, Option.bind_some, Option.toList_some, Option.toList_none, List.cons_append, List.nil_append, zB_go, zB_end, zB_no, zokv_i, zokv_r, zokv_n, eq_self]) (by simp only [e202, q202_0, q202_1, q202_2, q202_3, q202_52, q202_53, q202_56, q202_57, q202_58, gf_M0, ald_n92 (show 0 < 488 by decide), zn1_0, if_true, if_false, ↓reduceIte, Option.bind_some, Option.toList_some, Option.toList_none, List.cons_append, List.nil_append, zB_go, zB_end, zB_no, zokv_i, zokv_r, zokv_n, eq_self])
  by_cases x1 : x = nI 1
  · subst x1
    exact zOp_p (x := h 92 1) R (by simp only [e47, q47_0, q47_1, q47_60, q47_61, q47_64, q47_67, gf_L0, gf_W9 zW_1, b1, x0, zn1_0, if_true, if_false, ↓reduceIte, Option.bind_some, Option.toList_some, Option.toList_none, List.cons_append, List.nil_append, zB_go, zB_end, zB_no, zokv_i, zokv_r, zokv_n, eq_self]) (by simp only [e202, q202_0, q202_1, q202_2, q202_3, q202_59, q202_60, q202_63, q202_64, q202_65, gf_M0, ald_n92 (show 1 < 488 by decide), x0, zn1_0, if_true, if_false, ↓reduceIte, Option.bind_some, Option.toList_some, Option.toList_none, List.cons_append, List.nil_append, zB_go, zB_end, zB_no, zokv_i, zokv_r, zokv_n, eq_self])
  by_cases x2 : x = nI 2
  · subst x2
    exact zOp_p (x := h 92 2) R (by simp only [e47, q47_0, q47_1, q47_68, q47_69, q47_72, q47_75, gf_L0, gf_W10 zW_1, b2, x0, x1, zn1_0, if_true, if_false, ↓reduceIte, Option.bind_some, Option.toList_some, Option.toList_none, List.cons_append, List.nil_append, zB_go, zB_end, zB_no, zokv_i, zokv_r, zokv_n, eq_self]) (by simp only [e202, q202_0, q202_1, q202_2, q202_3, q202_66, q202_67, q202_70, q202_71, q202_72, gf_M0, ald_n92 (show 2 < 488 by decide), x0, x1, zn1_0, if_true, if_false, ↓reduceIte, Option.bind_some, Option.toList_some, Option.toList_none, List.cons_append, List.nil_append, zB_go, zB_end, zB_no, zokv_i, zokv_r, zokv_n, eq_self])
  by_cases x3 : x = nI 3
  · subst x3
    have v := fun d => w77 d r 80 0 (nI 0) (by omega)
    have c77 : ∀ d, zCf zT znl (d + 1) 77 [.ref 1] h = some (some (.int (zrv (h 92) (nI 0) 0 80)), h) := fun d => by simp only [e77, q77_0, q77_1, q77_2, q77_3, v, Option.bind_some, Option.toList_some, Option.toList_none, List.cons_append, List.nil_append, zB_go, zB_end, zB_no, zokv_i, zokv_r, zokv_n, eq_self]
    have v2 := fun d => w202r d (h := h) (w := nI 3) 80 0 (nI 0) (by omega)
    exact zOp_p (x := zrv (h 92) (nI 0) 0 80) R (by simp only [e47, q47_0, q47_1, q47_76, q47_77, q47_80, q47_83, gf_L0, c77, x0, x1, x2, rc_W zW_1, zn1_0, if_true, if_false, ↓reduceIte, Option.bind_some, Option.toList_some, Option.toList_none, List.cons_append, List.nil_append, zB_go, zB_end, zB_no, zokv_i, zokv_r, zokv_n, eq_self]) (by simp only [e202, q202_0, q202_1, q202_2, q202_3, q202_73, q202_74, v2, x0, x1, x2, zn1_0, if_true, if_false, ↓reduceIte, Option.bind_some, Option.toList_some, Option.toList_none, List.cons_append, List.nil_append, zB_go, zB_end, zB_no, zokv_i, zokv_r, zokv_n, eq_self])
  by_cases x4 : x = nI 4
  · subst x4
    exact zOp_p (x := h 92 3) R (by simp only [e47, q47_0, q47_1, q47_84, q47_85, q47_88, q47_91, gf_L0, gf_W13 zW_1, b5, x0, x1, x2, x3, zn1_0, if_true, if_false, ↓reduceIte, Option.bind_some, Option.toList_some, Option.toList_none, List.cons_append, List.nil_append, zB_go, zB_end, zB_no, zokv_i, zokv_r, zokv_n, eq_self]) (by simp only [e202, q202_0, q202_1, q202_2, q202_3, q202_105, q202_106, q202_109, q202_110, q202_111, gf_M0, ald_n92 (show 3 < 488 by decide), x0, x1, x2, x3, zn1_0, if_true, if_false, ↓reduceIte, Option.bind_some, Option.toList_some, Option.toList_none, List.cons_append, List.nil_append, zB_go, zB_end, zB_no, zokv_i, zokv_r, zokv_n, eq_self])
  by_cases x5 : x = nI 5
  · subst x5
    exact zOp_p (x := h 92 4) R (by simp only [e47, q47_0, q47_1, q47_92, q47_93, q47_96, q47_99, gf_L0, gf_W14 zW_1, b6, x0, x1, x2, x3, x4, zn1_0, if_true, if_false, ↓reduceIte, Option.bind_some, Option.toList_some, Option.toList_none, List.cons_append, List.nil_append, zB_go, zB_end, zB_no, zokv_i, zokv_r, zokv_n, eq_self]) (by simp only [e202, q202_0, q202_1, q202_2, q202_3, q202_112, q202_113, q202_116, q202_117, q202_118, gf_M0, ald_n92 (show 4 < 488 by decide), x0, x1, x2, x3, x4, zn1_0, if_true, if_false, ↓reduceIte, Option.bind_some, Option.toList_some, Option.toList_none, List.cons_append, List.nil_append, zB_go, zB_end, zB_no, zokv_i, zokv_r, zokv_n, eq_self])
  by_cases x6 : x = nI 6
  · subst x6
    exact zOp_p (x := nI t) R (by simp only [e47, q47_0, q47_1, q47_100, q47_101, q47_104, q47_107, gf_L4, gf_P1, t1, x0, x1, x2, x3, x4, x5, zn1_0, if_true, if_false, ↓reduceIte, Option.bind_some, Option.toList_some, Option.toList_none, List.cons_append, List.nil_append, zB_go, zB_end, zB_no, zokv_i, zokv_r, zokv_n, eq_self]) (by simp only [e202, q202_0, q202_1, q202_2, q202_3, q202_119, q202_120, q202_123, gf_M15, t2, x0, x1, x2, x3, x4, x5, zn1_0, if_true, if_false, ↓reduceIte, Option.bind_some, Option.toList_some, Option.toList_none, List.cons_append, List.nil_append, zB_go, zB_end, zB_no, zokv_i, zokv_r, zokv_n, eq_self])
  by_cases x7 : x = nI 7
  · subst x7
    exact zOp_p (x := h 92 5) R (by simp only [e47, q47_0, q47_1, q47_108, q47_109, q47_112, q47_115, gf_L0, gf_W11 zW_1, b3, x0, x1, x2, x3, x4, x5, x6, zn1_0, if_true, if_false, ↓reduceIte, Option.bind_some, Option.toList_some, Option.toList_none, List.cons_append, List.nil_append, zB_go, zB_end, zB_no, zokv_i, zokv_r, zokv_n, eq_self]) (by simp only [e202, q202_0, q202_1, q202_2, q202_3, q202_124, q202_125, q202_128, q202_129, q202_130, gf_M0, ald_n92 (show 5 < 488 by decide), x0, x1, x2, x3, x4, x5, x6, zn1_0, if_true, if_false, ↓reduceIte, Option.bind_some, Option.toList_some, Option.toList_none, List.cons_append, List.nil_append, zB_go, zB_end, zB_no, zokv_i, zokv_r, zokv_n, eq_self])
  by_cases x8 : x = nI 8
  · subst x8
    have v := fun d => w76 d z.1 r N 0 (nI 0) (by omega)
    have c76 : ∀ d, zCf zT znl (d + 1) 76 [.ref 1] h = some (some (.int (zfsum (zpu (h 92)) (nI 0) 0 N)), h) := fun d => by simp only [e76, q76_0, q76_1, q76_2, q76_3, v, Option.bind_some, Option.toList_some, Option.toList_none, List.cons_append, List.nil_append, zB_go, zB_end, zB_no, zokv_i, zokv_r, zokv_n, eq_self]
    have v2 := fun d => w202p d (h := h) (w := nI 8) (a3 := Value.null) rfl z.1 N 0 (nI 0) (by omega)
    exact zOp_p (x := zfsum (zpu (h 92)) (nI 0) 0 N) R (by simp only [e47, q47_0, q47_1, q47_116, q47_117, q47_120, q47_123, gf_L0, c76, x0, x1, x2, x3, x4, x5, x6, x7, rc_W zW_1, zn1_0, if_true, if_false, ↓reduceIte, Option.bind_some, Option.toList_some, Option.toList_none, List.cons_append, List.nil_append, zB_go, zB_end, zB_no, zokv_i, zokv_r, zokv_n, eq_self]) (by simp only [e202, q202_0, q202_1, q202_2, q202_3, q202_131, q202_132, v2, x0, x1, x2, x3, x4, x5, x6, x7, zn1_0, if_true, if_false, ↓reduceIte, Option.bind_some, Option.toList_some, Option.toList_none, List.cons_append, List.nil_append, zB_go, zB_end, zB_no, zokv_i, zokv_r, zokv_n, eq_self])
  exact zOp_k 1 R (by simp only [e47, q47_0, q47_1, q47_124, q47_125, q47_126, q47_129, x0, x1, x2, x3, x4, x5, x6, x7, x8, ce_1, ce_2, ce_3, ce_4, ce_5, ce_6, cm_1, cm_2, cm_3, cm_4, cm_5, cm_6, rc_L, rc_M, zn1_0, if_true, if_false, ↓reduceIte, Option.bind_some, Option.toList_some, Option.toList_none, List.cons_append, List.nil_append, zB_go, zB_end, zB_no, zokv_i, zokv_r, zokv_n, eq_self]) fun g hg => by simp only [e202, q202_0, q202_1, q202_2, q202_3, q202_161, q202_162, q202_163, q202_166, x0, x1, x2, x3, x4, x5, x6, x7, x8, ce_1, ce_2, ce_3, ce_4, ce_5, ce_6, cm_1, cm_2, cm_3, cm_4, cm_5, cm_6, rc_L, rc_M, zn1_0, if_true, if_false, ↓reduceIte, Option.bind_some, Option.toList_some, Option.toList_none, List.cons_append, List.nil_append, zB_go, zB_end, zB_no, zokv_i, zokv_r, zokv_n, eq_self]
end O72
