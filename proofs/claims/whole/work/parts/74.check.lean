/-! ===== check ===== -/
def zck (s : Nat → Int32) : Nat → Nat → Nat
  | 0, i => i
  | m + 1, i => if s (464 + i) = zshout s i then zck s m (i + 1) else i
theorem zck_le {s : Nat → Int32} : ∀ (m i : Nat), i ≤ zck s m i ∧ zck s m i ≤ i + m
  | 0, i => ⟨Nat.le_refl _, Nat.le_refl _⟩
  | m + 1, i => by
    unfold zck
    split
    · have := zck_le (s := s) m (i + 1)
      omega
    · omega
def zca (W N r : Nat) : Int32 := if r = W ∧ r = N then nI 0 else nI (1 + r)
theorem zpl_in {i N : Nat} (hN : N ≤ 8) (hi : i < N) : zwi (nI i) (nI 0) (nI N - nI 1) = nI 1 := by
  rw [pk_sub (by omega)]
  exact zwi_in (by omega) (by omega)
theorem zpl_out {N : Nat} (hN : N ≤ 8) : zwi (nI N) (nI 0) (nI N - nI 1) = nI 0 := by
  rcases zpl_c (nI N) hN with e | ⟨k, hk, e, -⟩
  · exact e.2
  · have := (nI_eq (by omega) (by omega)).mp e
    omega
section O74
variable (d : Nat) {h : zH}
theorem w46 {N mk W B : Nat} {s : Nat → Int32} (z : zJ s N mk) (hW : W ≤ 24) (hB : B = min W N) : ∀ (m i : Nat) (h : zH), i + m = B → zRW 1 s h → ∃ h', zXf zT znl (d + 5) 46 30 [.ref 0, .int (nI W), .int (nI B), .int (nI i)] [] h = some (some (.int (zca W N (zck s m i))), h') ∧ ∀ a, a ≠ 16 → a ≠ 20 → a ≠ 21 → h' a = h a := by
  have hN8 := z.2.1
  intro m
  induction m with
  | zero =>
    intro i h hi r
    have h12 : h 1 12 = nI N := r.2.2.2.1.2.2.2.1.trans z.1
    have le : nI B ≤ nI i := by rw [show i = B by omega]; exact Int32.le_refl _
    refine ⟨h, ?_, fun _ _ _ _ => rfl⟩
    rw [q46_30]
    unfold zck zca
    by_cases e : W = N
    · subst e
      rw [if_pos (by omega)]
      simp only [q46_31, q46_32, q46_65, q46_66, q46_67, q46_70, q46_73, q46_76, q46_77, q46_83, gf_L0, gf_W12 zW_1, h12, le, zn1_0, if_true, if_false, ↓reduceIte, Option.bind_some, Option.toList_some, Option.toList_none, List.cons_append, List.nil_append, zB_go, zB_end, zB_no, zokv_i, zokv_r, zokv_n, eq_self]
    · have ne : ¬ nI W = nI N := nI_ne e (by omega) (by omega)
      rw [if_neg (by omega)]
      have iB : i = B := by omega
      subst iB
      simp only [q46_31, q46_32, q46_65, q46_66, q46_67, q46_70, q46_73, q46_80, q46_81, q46_82, q46_83, gf_L0, gf_W12 zW_1, h12, ne, le, nI_add, zn1_0, if_true, if_false, ↓reduceIte, Option.bind_some, Option.toList_some, Option.toList_none, List.cons_append, List.nil_append, zB_go, zB_end, zB_no, zokv_i, zokv_r, zokv_n, eq_self]
  | succ m ih =>
    intro i h hi r
    have le : ¬ nI B ≤ nI i := nI_ge (by omega) (by omega)
    have i8 : i < 8 := by omega
    have g1 : h (1 + 23) i = s (464 + i) := r.2.2.2.2.2.1 i (by omega)
    obtain ⟨m0, -, m1, lk, hP, t0, t1⟩ := id z
    obtain ⟨h1, f1, f2⟩ := c58 d h zW_1 i8 r m0 hN8 m1 lk (hP i i8) t0 t1
    unfold zck
    by_cases e : s (464 + i) = zshout s i
    · rw [if_pos e]
      obtain ⟨h', p1, p2⟩ := ih (i + 1) h1 (by omega) (zRW_keep r fun a _ _ q1 q2 q3 _ => f2 a q3 q1 q2)
      refine ⟨h', ?_, fun a q1 q2 q3 => by rw [p2 a q1 q2 q3, f2 a q3 q1 q2]⟩
      rw [← p1, q46_30]
      simp only [q46_31, q46_32, q46_35, q46_36, q46_39, q46_42, q46_43, q46_44, q46_45, q46_48, q46_49, q46_52, q46_59, q46_62, gf_L0, gf_W8 zW_1, ald_W23 zW_1 (show i < 24 by omega), g1, f1, le, e, rc_W zW_1, nI_add, zn1_0, if_true, if_false, ↓reduceIte, Option.bind_some, Option.toList_some, Option.toList_none, List.cons_append, List.nil_append, zB_go, zB_end, zB_no, zokv_i, zokv_r, zokv_n, eq_self]
    · rw [if_neg e]
      refine ⟨h1, ?_, fun a q1 q2 q3 => f2 a q3 q1 q2⟩
      unfold zca
      rw [if_neg (by omega), q46_30]
      simp only [q46_31, q46_32, q46_35, q46_36, q46_39, q46_42, q46_43, q46_44, q46_45, q46_48, q46_49, q46_52, q46_55, q46_56, q46_57, q46_58, gf_L0, gf_W8 zW_1, ald_W23 zW_1 (show i < 24 by omega), g1, f1, le, e, rc_W zW_1, nI_add, zn1_0, if_true, if_false, ↓reduceIte, Option.bind_some, Option.toList_some, Option.toList_none, List.cons_append, List.nil_append, zB_go, zB_end, zB_no, zokv_i, zokv_r, zokv_n, eq_self]
theorem w201 {N mk W B : Nat} {s : Nat → Int32} (z : zJ s N mk) (hW : W ≤ 24) (hB : B = min W N) : ∀ (m i : Nat) (h : zH), i + m = B → h 92 = s → ∃ h', zXf zT znl (d + 6) 201 16 [.ref 91, .int (nI W), .int (nI i)] [] h = zXf zT znl (d + 6) 201 53 [.ref 91, .int (nI W), .int (nI (zck s m i))] [] h' ∧ ∀ a, a ≠ 97 → a ≠ 98 → h' a = h a := by
  have hN8 := z.2.1
  intro m
  induction m with
  | zero =>
    intro i h hi e
    refine ⟨h, ?_, fun _ _ _ => rfl⟩
    rw [q201_16]
    unfold zck
    by_cases le : W ≤ i
    · have le' : nI W ≤ nI i := nI_le le (by omega)
      simp only [q201_17, q201_18, le', zn1_0, if_true, if_false, ↓reduceIte, Option.bind_some, Option.toList_some, Option.toList_none, List.cons_append, List.nil_append, zB_go, zB_end, zB_no, zokv_i, zokv_r, zokv_n, eq_self]
    · have le' : ¬ nI W ≤ nI i := nI_ge (by omega) (by omega)
      have iN : i = N := by omega
      subst iN
      have o := zpl_out hN8
      simp only [q201_17, q201_18, q201_21, q201_22, q201_23, q201_26, c111, e, z.1, o, le', rc_M, zn1_0, if_true, if_false, ↓reduceIte, Option.bind_some, Option.toList_some, Option.toList_none, List.cons_append, List.nil_append, zB_go, zB_end, zB_no, zokv_i, zokv_r, zokv_n, eq_self]
  | succ m ih =>
    intro i h hi e
    have le : ¬ nI W ≤ nI i := nI_ge (by omega) (by omega)
    have i8 : i < 8 := by omega
    have o := zpl_in hN8 (show i < N by omega)
    obtain ⟨m0, -, m1, lk, hP, t0, t1⟩ := id z
    obtain ⟨h1, f1, f2⟩ := c131 (d + 1) h i8 (by rw [e]; exact m0) hN8 (by rw [e]; exact m1) lk (by rw [e]; exact hP i i8) (by rw [e]; exact t0) (by rw [e]; exact t1)
    rw [e] at f1
    unfold zck
    by_cases q : s (464 + i) = zshout s i
    · rw [if_pos q]
      obtain ⟨h', p1, p2⟩ := ih (i + 1) h1 (by omega) (by rw [f2 92 (by decide) (by decide)]; exact e)
      refine ⟨h', ?_, fun a q1 q2 => by rw [p2 a q1 q2, f2 a q1 q2]⟩
      rw [← p1, q201_16]
      simp only [q201_17, q201_18, q201_21, q201_22, q201_23, q201_26, q201_29, q201_30, q201_33, q201_36, q201_37, q201_38, q201_39, q201_40, q201_41, q201_44, q201_47, q201_50, c111, e, m0, o, le, f1, q, gf_M0, nI_add, ald_n92 (show 464 + i < 488 by omega), rc_M, zn1_0, if_true, if_false, ↓reduceIte, Option.bind_some, Option.toList_some, Option.toList_none, List.cons_append, List.nil_append, zB_go, zB_end, zB_no, zokv_i, zokv_r, zokv_n, eq_self]
    · rw [if_neg q]
      refine ⟨h1, ?_, f2⟩
      rw [q201_16]
      simp only [q201_17, q201_18, q201_21, q201_22, q201_23, q201_26, q201_29, q201_30, q201_33, q201_36, q201_37, q201_38, q201_39, q201_40, q201_41, q201_44, c111, e, m0, o, le, f1, q, gf_M0, nI_add, ald_n92 (show 464 + i < 488 by omega), rc_M, zn1_0, if_true, if_false, ↓reduceIte, Option.bind_some, Option.toList_some, Option.toList_none, List.cons_append, List.nil_append, zB_go, zB_end, zB_no, zokv_i, zokv_r, zokv_n, eq_self]
theorem o46 (R : Rel h) : zOp (d + 60) 46 201 [] h := by
  obtain ⟨⟨N, mk, z⟩, r, -⟩ := id R
  have hN8 := z.1.2.1
  have m0 := z.1.1
  obtain ⟨W, hW, e4⟩ := z.2.2.2.1
  have h14 : h 1 14 = nI W := r.2.2.2.1.2.2.2.2.2.trans e4
  have h12 : h 1 12 = nI N := r.2.2.2.1.2.2.2.1.trans m0
  have z' : zI (zud (h 92) 4 (nI 0)) N mk := zI_w (zJ_udx (by omega) (by omega) z.1) z (fun y => absurd y (by omega)) (fun y => absurd y (by omega)) (fun _ => ⟨0, by decide, rfl⟩) (fun y => absurd y (by omega))
  have r' : zRW 1 (zud (h 92) 4 (nI 0)) (zup h 1 14 (nI 0)) := zRW_ud (by unfold zloc; omega) z.1.2.2.2.2.2.1 z.1.2.2.2.2.2.2 r
  obtain ⟨h1, p1, p2⟩ := w46 (d + 54) z'.1 hW (B := min W N) rfl (min W N) 0 (zup h 1 14 (nI 0)) (by omega) r'
  have k92 : h1 92 = h 92 := by rw [p2 92 (by decide) (by decide) (by decide), zup_row_ne (by decide)]
  obtain ⟨h2, g1, g2⟩ := w201 (d + 53) z'.1 hW (B := min W N) rfl (min W N) 0 (zup h1 92 4 (nI 0)) (by omega) (by rw [zup_ud, k92])
  have k2 : h2 92 = zud (h 92) 4 (nI 0) := by rw [g2 92 (by decide) (by decide), zup_ud, k92]
  have mi : zmin (nI W) (nI N) = nI (min W N) := by
    unfold zmin
    by_cases a : N < W
    · rw [if_pos (nI_lt a (by omega)), show min W N = N by omega]
    · rw [if_neg (nI_nlt (by omega) (by omega)), show min W N = W by omega]
  have bd := zck_le (s := zud (h 92) 4 (nI 0)) (min W N) 0
  refine ⟨zca W N (zck (zud (h 92) 4 (nI 0)) (min W N) 0), h1, h2, ?_, ?_, ?_⟩
  · have q0 : ∀ x, zup h 1 14 x 1 12 = h 1 12 := fun x => zup_o (by decide)
    simp only [e46, q46_0, q46_1, q46_4, q46_7, q46_8, q46_9, q46_12, q46_13, q46_16, q46_17, q46_18, q46_21, q46_24, q46_27, q46_28, q46_29, gf_L0, gf_W14 zW_1, pf_W14 zW_1, gf_W12 zW_1, h14, q0, h12, c206, mi, p1, zn1_0, if_true, if_false, ↓reduceIte, Option.bind_some, Option.toList_some, Option.toList_none, List.cons_append, List.nil_append, zB_go, zB_end, zB_no, zokv_i, zokv_r, zokv_n, eq_self]
  · simp only [e201, q201_0, q201_1, q201_4, q201_5, q201_6, q201_7, q201_8, q201_11, q201_12, q201_13, q201_14, q201_15, gf_M0, ald_n92 (show 4 < 488 by decide), ast_n92 (show 4 < 488 by decide), k92, e4, g1, zn1_0, if_true, if_false, ↓reduceIte, Option.bind_some, Option.toList_some, Option.toList_none, List.cons_append, List.nil_append, zB_go, zB_end, zB_no, zokv_i, zokv_r, zokv_n, eq_self]
    generalize zck (zud (h 92) 4 (nI 0)) (min W N) 0 = t at *
    have n2 : h2 92 0 = nI N := by rw [k2, zud_ne (by decide)]; exact m0
    unfold zca
    by_cases a : t = W
    · subst a
      by_cases b : t = N
      · subst b
        rw [if_pos ⟨rfl, rfl⟩]
        simp only [q201_53, q201_54, q201_55, q201_58, q201_59, q201_60, q201_63, q201_64, q201_65, q201_68, q201_69, q201_75, gf_M0, ald_n92 (show 0 < 488 by decide), n2, zn1_0, if_true, if_false, ↓reduceIte, Option.bind_some, Option.toList_some, Option.toList_none, List.cons_append, List.nil_append, zB_go, zB_end, zB_no, zokv_i, zokv_r, zokv_n, eq_self]
      · have nb := nI_ne b (by omega) (by omega)
        rw [if_neg (fun w => b w.2)]
        simp only [q201_53, q201_54, q201_55, q201_58, q201_59, q201_60, q201_63, q201_64, q201_65, q201_72, q201_73, q201_74, q201_75, gf_M0, ald_n92 (show 0 < 488 by decide), n2, nb, nI_add, zn1_0, if_true, if_false, ↓reduceIte, Option.bind_some, Option.toList_some, Option.toList_none, List.cons_append, List.nil_append, zB_go, zB_end, zB_no, zokv_i, zokv_r, zokv_n, eq_self]
    · have na := nI_ne a (by omega) (by omega)
      rw [if_neg (fun w => a w.1)]
      simp only [q201_53, q201_54, q201_55, q201_72, q201_73, q201_74, q201_75, na, nI_add, zn1_0, if_true, if_false, ↓reduceIte, Option.bind_some, Option.toList_some, Option.toList_none, List.cons_append, List.nil_append, zB_go, zB_end, zB_no, zokv_i, zokv_r, zokv_n, eq_self]
  · refine Rel_row (N := N) (mk := mk) R (by rw [k2]; exact z') ?_ fun a ha => by rw [g2 a (by omega) (by omega), zup_row_ne (by omega), p2 a (by omega) (by omega) (by omega), zup_row_ne (by omega)]
    rw [k2]
    exact zRW_keep r' fun a q1 q2 q3 q4 q5 q6 => by rw [g2 a (by omega) (by omega), zup_row_ne (by omega), p2 a (by omega) (by omega) (by omega)]
end O74
