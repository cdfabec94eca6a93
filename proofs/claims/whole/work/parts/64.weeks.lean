/-! ===== weeks, coins ===== -/
section O64
variable (d : Nat) {h : zH}
theorem zRow_week {h1 h2 : zH} {s' : Nat → Int32} {N m : Nat} (R : Rel h) (z : zI s' N m) (r : zRW 1 s' h1) (f1 : ∀ a, ¬ (1 ≤ a ∧ a < 25) → h1 a = h a) (e : h2 92 = s') (f2 : ∀ a, a ≠ 92 → a ≠ 97 → a ≠ 98 → a ≠ 99 → h2 a = h1 a) : Rel h2 := by
  refine Rel_row (N := N) (mk := m) R (by rw [e]; exact z) ?_ fun a ha => by rw [f2 a (by omega) (by omega) (by omega) (by omega), f1 a (by omega)]
  rw [e]
  exact zRW_keep r fun a _ _ _ _ _ _ => f2 a (by omega) (by omega) (by omega) (by omega)
theorem o21 (R : Rel h) (x : Int32) : zOp (d + 60) 21 161 [.int x] h := by
  obtain ⟨⟨N, mk, z⟩, r, -⟩ := id R
  obtain ⟨a1, a2, a3, ⟨b1, b2, b3, b4, b5, b6⟩, a5, a6, a7, a8⟩ := id r
  rcases zwi_c1 x 60 (by decide) with f | ⟨n, n1, n2, rfl, f⟩
  · exact zOp_k 1 R (by simp only [e21, q21_0, q21_1, q21_2, q21_4, q21_7, q21_10, q21_11, q21_12, q21_15, q21_16, q21_17, q21_20, q21_23, q21_24, q21_25, q21_28, q21_31, q21_32, q21_33, q21_36, q21_37, q21_38, q21_41, q21_42, q21_45, q21_46, q21_49, q21_52, c0, f, ce_1, ce_2, ce_3, ce_4, ce_5, ce_6, cm_1, cm_2, cm_3, cm_4, cm_5, cm_6, rc_L, rc_M, zn1_0, if_true, if_false, ↓reduceIte, Option.bind_some, Option.toList_some, Option.toList_none, List.cons_append, List.nil_append, zB_go, zB_end, zB_no, zokv_i, zokv_r, zokv_n, eq_self]) fun g hg => by simp only [e161, q161_0, q161_1, q161_2, q161_4, q161_7, q161_10, q161_11, q161_12, q161_15, q161_16, q161_17, q161_20, q161_21, q161_22, q161_23, q161_24, q161_27, q161_30, q161_31, q161_32, q161_35, q161_36, q161_37, q161_38, q161_41, q161_42, q161_45, q161_46, q161_47, c107, f, ce_1, ce_2, ce_3, ce_4, ce_5, ce_6, cm_1, cm_2, cm_3, cm_4, cm_5, cm_6, rc_L, rc_M, zn1_0, if_true, if_false, ↓reduceIte, Option.bind_some, Option.toList_some, Option.toList_none, List.cons_append, List.nil_append, zB_go, zB_end, zB_no, zokv_i, zokv_r, zokv_n, eq_self]
  by_cases q : h 92 2 + nI n ≤ nI 9999
  · obtain ⟨q7, hq, h7⟩ := z.2.1
    obtain ⟨h1, f1, r1, f2⟩ := c70 (d + 52) (w := 1) (M := n) (h := h) zW_1 (by omega) hq z.1 h7 r
    have k92 : h1 92 = h 92 := f2 92 (by omega)
    obtain ⟨h2, g1, g2, g3⟩ := c160 (d + 51) (h := h1) (M := n) (by omega) hq (by rw [k92]; exact z.1) (by rw [k92]; exact h7)
    rw [k92] at g2
    obtain ⟨m, z'⟩ := zI_wks n z
    refine ⟨zwks n (h 92) 1, h1, h2, ?_, ?_, zRow_week R z' r1 f2 g2 g3⟩
    · have r9 := r1.2.2.2.1.1
      simp only [e21, q21_0, q21_1, q21_2, q21_4, q21_7, q21_10, q21_11, q21_12, q21_15, q21_16, q21_17, q21_20, q21_23, q21_24, q21_25, q21_28, q21_31, q21_32, q21_33, q21_36, q21_37, q21_38, q21_41, q21_42, q21_45, q21_46, q21_49, q21_52, c0, f, gf_L0, gf_W10 zW_1, gf_W9 zW_1, b2, q, f1, r9, rc_W zW_1, ce_1, ce_2, ce_3, ce_4, ce_5, ce_6, cm_1, cm_2, cm_3, cm_4, cm_5, cm_6, rc_L, rc_M, zn1_0, if_true, if_false, ↓reduceIte, Option.bind_some, Option.toList_some, Option.toList_none, List.cons_append, List.nil_append, zB_go, zB_end, zB_no, zokv_i, zokv_r, zokv_n, eq_self]
    · simp only [e161, q161_0, q161_1, q161_2, q161_4, q161_7, q161_10, q161_11, q161_12, q161_15, q161_16, q161_17, q161_20, q161_21, q161_22, q161_23, q161_24, q161_27, q161_30, q161_31, q161_32, q161_35, q161_36, q161_37, q161_38, q161_41, q161_42, q161_45, q161_46, q161_47, c107, f, gf_M0, ald_n92 (show 2 < 488 by decide), ald_n92 (show 1 < 488 by decide), k92, q, g1, g2, ce_1, ce_2, ce_3, ce_4, ce_5, ce_6, cm_1, cm_2, cm_3, cm_4, cm_5, cm_6, rc_L, rc_M, zn1_0, if_true, if_false, ↓reduceIte, Option.bind_some, Option.toList_some, Option.toList_none, List.cons_append, List.nil_append, zB_go, zB_end, zB_no, zokv_i, zokv_r, zokv_n, eq_self]
  · exact zOp_k 3 R (by simp only [e21, q21_0, q21_1, q21_2, q21_4, q21_7, q21_10, q21_11, q21_12, q21_15, q21_16, q21_17, q21_20, q21_23, q21_24, q21_25, q21_28, q21_31, q21_32, q21_33, q21_36, q21_37, q21_38, q21_41, q21_42, q21_45, q21_46, q21_49, q21_52, c0, f, gf_L0, gf_W10 zW_1, b2, q, ce_1, ce_2, ce_3, ce_4, ce_5, ce_6, cm_1, cm_2, cm_3, cm_4, cm_5, cm_6, rc_L, rc_M, zn1_0, if_true, if_false, ↓reduceIte, Option.bind_some, Option.toList_some, Option.toList_none, List.cons_append, List.nil_append, zB_go, zB_end, zB_no, zokv_i, zokv_r, zokv_n, eq_self]) fun g hg => by simp only [e161, q161_0, q161_1, q161_2, q161_4, q161_7, q161_10, q161_11, q161_12, q161_15, q161_16, q161_17, q161_20, q161_21, q161_22, q161_23, q161_24, q161_27, q161_30, q161_31, q161_32, q161_35, q161_36, q161_37, q161_38, q161_41, q161_42, q161_45, q161_46, q161_47, c107, f, gf_M0, ald_n92 (show 2 < 488 by decide), hg 92 (by decide), q, ce_1, ce_2, ce_3, ce_4, ce_5, ce_6, cm_1, cm_2, cm_3, cm_4, cm_5, cm_6, rc_L, rc_M, zn1_0, if_true, if_false, ↓reduceIte, Option.bind_some, Option.toList_some, Option.toList_none, List.cons_append, List.nil_append, zB_go, zB_end, zB_no, zokv_i, zokv_r, zokv_n, eq_self]
/-- coin weeks, one after another -/
def zcws : Nat → (Nat → Int32) → Nat → Int32
  | 0, s => s
  | n + 1, s => zcws n (zcw s)
theorem w22 {M N : Nat} (hM : M < 2 ^ 31) (h0 : 0 < N) : ∀ (n j : Nat) (s : Nat → Int32) (h : zH) (mk : Nat), j + n = M → zI s N mk → zRW 1 s h → ∃ h' m, zXf zT znl (d + 7) 22 49 [.ref 0, .int (nI M), .int (nI j)] [] h = some (some (.int (zcws n s 1)), h') ∧ zI (zcws n s) N m ∧ zRW 1 (zcws n s) h' ∧ ∀ a, ¬ (1 ≤ a ∧ a < 25) → h' a = h a := by
  intro n
  induction n with
  | zero =>
    intro j s h mk hj z r
    have c : nI M ≤ nI j := by rw [show j = M by omega]; exact Int32.le_refl _
    have r9 := r.2.2.2.1.1
    refine ⟨h, mk, ?_, z, r, fun _ _ => rfl⟩
    rw [q22_49]
    simp only [q22_50, q22_51, q22_67, q22_68, q22_71, q22_74, c, gf_L0, gf_W9 zW_1, r9, if_true, Option.bind_some, Option.toList_some, Option.toList_none, List.cons_append, List.nil_append, zB_go, zB_end, zB_no, zokv_i, zokv_r, zokv_n, eq_self]
    rfl
  | succ n ih =>
    intro j s h mk hj z r
    have c : ¬ (nI M ≤ nI j) := nI_ge (by omega) (by omega)
    obtain ⟨q7, hq, h7⟩ := z.2.1
    obtain ⟨h1, f1, r1, f2⟩ := c71 (d + 1) (w := 1) (h := h) zW_1 h0 hq z.1 h7 r
    obtain ⟨m, z'⟩ := zI_cw h0 z
    obtain ⟨h', m', g1, g2, g3, g4⟩ := ih (j + 1) (zcw s) h1 m (by omega) z' r1
    refine ⟨h', m', ?_, g2, g3, fun a ha => by rw [g4 a ha, f2 a ha]⟩
    show _ = some (some (Value.int (zcws n (zcw s) 1)), h')
    rw [← g1, q22_49]
    simp only [q22_0, q22_1, q22_2, q22_4, q22_7, q22_10, q22_11, q22_12, q22_15, q22_16, q22_17, q22_20, q22_23, q22_24, q22_25, q22_28, q22_31, q22_32, q22_35, q22_38, q22_41, q22_42, q22_43, q22_46, q22_47, q22_48, q22_50, q22_51, q22_54, q22_55, q22_58, q22_61, q22_64, q22_67, q22_68, q22_71, q22_74, c, gf_L0, f1, rc_W zW_1, nI_add, if_false, Option.bind_some, Option.toList_some, Option.toList_none, List.cons_append, List.nil_append, zB_go, zB_end, zB_no, zokv_i, zokv_r, zokv_n, eq_self]
theorem w162 {M N : Nat} (hM : M < 2 ^ 31) (h0 : 0 < N) : ∀ (n j : Nat) (h : zH) (mk : Nat), j + n = M → zI (h 92) N mk → ∃ h', zXf zT znl (d + 7) 162 47 [.ref 91, .int (nI M), .int (nI j)] [] h = some (some (.int (zcws n (h 92) 1)), h') ∧ h' 92 = zcws n (h 92) ∧ ∀ a, a ≠ 92 → h' a = h a := by
  intro n
  induction n with
  | zero =>
    intro j h mk hj z
    have c : nI M ≤ nI j := by rw [show j = M by omega]; exact Int32.le_refl _
    refine ⟨h, ?_, rfl, fun _ _ => rfl⟩
    rw [q162_47]
    simp only [q162_48, q162_49, q162_62, q162_63, q162_66, q162_67, q162_68, c, gf_M0, ald_n92 (show 1 < 488 by decide), if_true, Option.bind_some, Option.toList_some, Option.toList_none, List.cons_append, List.nil_append, zB_go, zB_end, zB_no, zokv_i, zokv_r, zokv_n, eq_self]
    rfl
  | succ n ih =>
    intro j h mk hj z
    have c : ¬ (nI M ≤ nI j) := nI_ge (by omega) (by omega)
    obtain ⟨q7, hq, h7⟩ := z.2.1
    obtain ⟨h1, f1, r1, f2⟩ := c159 (d + 1) (h := h) h0 hq z.1 h7
    obtain ⟨m, z'⟩ := zI_cw h0 z
    obtain ⟨h', g1, g2, g4⟩ := ih (j + 1) h1 m (by omega) (by rw [r1]; exact z')
    rw [r1] at g1 g2
    refine ⟨h', ?_, g2, fun a ha => by rw [g4 a ha, f2 a ha]⟩
    show _ = some (some (Value.int (zcws n (zcw (h 92)) 1)), h')
    rw [← g1, q162_47]
    simp only [q162_0, q162_1, q162_2, q162_4, q162_7, q162_10, q162_11, q162_12, q162_15, q162_16, q162_17, q162_20, q162_21, q162_22, q162_23, q162_24, q162_27, q162_30, q162_31, q162_34, q162_35, q162_36, q162_39, q162_40, q162_41, q162_44, q162_45, q162_46, q162_48, q162_49, q162_52, q162_53, q162_56, q162_59, q162_62, q162_63, q162_66, q162_67, q162_68, c, f1, nI_add, if_false, ce_1, ce_2, ce_3, ce_4, ce_5, ce_6, cm_1, cm_2, cm_3, cm_4, cm_5, cm_6, rc_L, rc_M, Option.bind_some, Option.toList_some, Option.toList_none, List.cons_append, List.nil_append, zB_go, zB_end, zB_no, zokv_i, zokv_r, zokv_n, eq_self]
theorem o22 (R : Rel h) (x : Int32) : zOp (d + 60) 22 162 [.int x] h := by
  obtain ⟨⟨N, mk, z⟩, r, -⟩ := id R
  obtain ⟨a1, a2, a3, ⟨b1, b2, b3, b4, b5, b6⟩, a5, a6, a7, a8⟩ := id r
  have m0 := z.1.1
  have h12 : h 1 12 = nI N := b4.trans m0
  have hN8 := z.1.2.1
  rcases zwi_c1 x 60 (by decide) with f | ⟨n, n1, n2, rfl, f⟩
  · exact zOp_k 1 R (by simp only [e22, q22_0, q22_1, q22_2, q22_4, q22_7, q22_10, q22_11, q22_12, q22_15, q22_16, q22_17, q22_20, q22_23, q22_24, q22_25, q22_28, q22_31, q22_32, q22_35, q22_38, q22_41, q22_42, q22_43, q22_46, q22_47, q22_48, q22_49, q22_50, q22_51, q22_54, q22_55, q22_58, q22_61, q22_64, q22_67, q22_68, q22_71, q22_74, c0, f, ce_1, ce_2, ce_3, ce_4, ce_5, ce_6, cm_1, cm_2, cm_3, cm_4, cm_5, cm_6, rc_L, rc_M, zn1_0, if_true, if_false, ↓reduceIte, Option.bind_some, Option.toList_some, Option.toList_none, List.cons_append, List.nil_append, zB_go, zB_end, zB_no, zokv_i, zokv_r, zokv_n, eq_self]) fun g hg => by simp only [e162, q162_0, q162_1, q162_2, q162_4, q162_7, q162_10, q162_11, q162_12, q162_15, q162_16, q162_17, q162_20, q162_21, q162_22, q162_23, q162_24, q162_27, q162_30, q162_31, q162_34, q162_35, q162_36, q162_39, q162_40, q162_41, q162_44, q162_45, q162_46, q162_47, q162_48, q162_49, q162_52, q162_53, q162_56, q162_59, q162_62, q162_63, q162_66, q162_67, q162_68, c107, f, ce_1, ce_2, ce_3, ce_4, ce_5, ce_6, cm_1, cm_2, cm_3, cm_4, cm_5, cm_6, rc_L, rc_M, zn1_0, if_true, if_false, ↓reduceIte, Option.bind_some, Option.toList_some, Option.toList_none, List.cons_append, List.nil_append, zB_go, zB_end, zB_no, zokv_i, zokv_r, zokv_n, eq_self]
  by_cases q : nI 9999 < h 92 2 + nI n
  · exact zOp_k 3 R (by simp only [e22, q22_0, q22_1, q22_2, q22_4, q22_7, q22_16, q22_17, q22_20, q22_23, q22_24, q22_25, q22_28, q22_41, q22_42, q22_43, q22_46, c0, f, gf_L0, gf_W10 zW_1, b2, q, ce_1, ce_2, ce_3, ce_4, ce_5, ce_6, cm_1, cm_2, cm_3, cm_4, cm_5, cm_6, rc_L, rc_M, zn1_0, if_true, if_false, ↓reduceIte, Option.bind_some, Option.toList_some, Option.toList_none, List.cons_append, List.nil_append, zB_go, zB_end, zB_no, zokv_i, zokv_r, zokv_n, eq_self]) fun g hg => by simp only [e162, q162_0, q162_1, q162_2, q162_4, q162_7, q162_16, q162_17, q162_20, q162_21, q162_22, q162_23, q162_24, q162_27, q162_39, q162_40, q162_41, q162_44, c107, f, gf_M0, ald_n92 (show 2 < 488 by decide), hg 92 (by decide), q, ce_1, ce_2, ce_3, ce_4, ce_5, ce_6, cm_1, cm_2, cm_3, cm_4, cm_5, cm_6, rc_L, rc_M, zn1_0, if_true, if_false, ↓reduceIte, Option.bind_some, Option.toList_some, Option.toList_none, List.cons_append, List.nil_append, zB_go, zB_end, zB_no, zokv_i, zokv_r, zokv_n, eq_self]
  by_cases n0 : N = 0
  · subst n0
    exact zOp_k 3 R (by simp only [e22, q22_0, q22_1, q22_2, q22_4, q22_7, q22_16, q22_17, q22_20, q22_23, q22_24, q22_25, q22_28, q22_31, q22_32, q22_35, q22_38, q22_41, q22_42, q22_43, q22_46, c0, f, gf_L0, gf_W10 zW_1, gf_W12 zW_1, b2, h12, q, ce_1, ce_2, ce_3, ce_4, ce_5, ce_6, cm_1, cm_2, cm_3, cm_4, cm_5, cm_6, rc_L, rc_M, zn1_0, if_true, if_false, ↓reduceIte, Option.bind_some, Option.toList_some, Option.toList_none, List.cons_append, List.nil_append, zB_go, zB_end, zB_no, zokv_i, zokv_r, zokv_n, eq_self]) fun g hg => by simp only [e162, q162_0, q162_1, q162_2, q162_4, q162_7, q162_16, q162_17, q162_20, q162_21, q162_22, q162_23, q162_24, q162_27, q162_30, q162_31, q162_34, q162_35, q162_36, q162_39, q162_40, q162_41, q162_44, c107, f, gf_M0, ald_n92 (show 2 < 488 by decide), ald_n92 (show 0 < 488 by decide), hg 92 (by decide), m0, q, ce_1, ce_2, ce_3, ce_4, ce_5, ce_6, cm_1, cm_2, cm_3, cm_4, cm_5, cm_6, rc_L, rc_M, zn1_0, if_true, if_false, ↓reduceIte, Option.bind_some, Option.toList_some, Option.toList_none, List.cons_append, List.nil_append, zB_go, zB_end, zB_no, zokv_i, zokv_r, zokv_n, eq_self]
  · have h0 : 0 < N := by omega
    have nn : ¬ nI N = nI 0 := nI_ne n0 (by omega) (by decide)
    obtain ⟨h1, m, f1, f2, f3, f4⟩ := w22 (d + 52) (M := n) (by omega) h0 n 0 (h 92) h mk (by omega) z r
    have k92 : h1 92 = h 92 := f4 92 (by omega)
    obtain ⟨h2, g1, g2, g3⟩ := w162 (d + 52) (M := n) (by omega) h0 n 0 h1 mk (by omega) (by rw [k92]; exact z)
    rw [k92] at g1 g2
    refine ⟨zcws n (h 92) 1, h1, h2, ?_, ?_, zRow_week R f2 f3 f4 g2 fun a ha _ _ _ => g3 a ha⟩
    · simp only [e22, q22_0, q22_1, q22_2, q22_4, q22_7, q22_16, q22_17, q22_20, q22_23, q22_24, q22_25, q22_28, q22_31, q22_32, q22_35, q22_38, q22_47, q22_48, c0, f, gf_L0, gf_W10 zW_1, gf_W12 zW_1, b2, h12, nn, q, f1, ce_1, ce_2, ce_3, ce_4, ce_5, ce_6, cm_1, cm_2, cm_3, cm_4, cm_5, cm_6, rc_L, rc_M, zn1_0, if_true, if_false, ↓reduceIte, Option.bind_some, Option.toList_some, Option.toList_none, List.cons_append, List.nil_append, zB_go, zB_end, zB_no, zokv_i, zokv_r, zokv_n, eq_self]
    · simp only [e162, q162_0, q162_1, q162_2, q162_4, q162_7, q162_16, q162_17, q162_20, q162_21, q162_22, q162_23, q162_24, q162_27, q162_30, q162_31, q162_34, q162_35, q162_36, q162_45, q162_46, c107, f, gf_M0, ald_n92 (show 2 < 488 by decide), ald_n92 (show 0 < 488 by decide), k92, m0, nn, q, g1, ce_1, ce_2, ce_3, ce_4, ce_5, ce_6, cm_1, cm_2, cm_3, cm_4, cm_5, cm_6, rc_L, rc_M, zn1_0, if_true, if_false, ↓reduceIte, Option.bind_some, Option.toList_some, Option.toList_none, List.cons_append, List.nil_append, zB_go, zB_end, zB_no, zokv_i, zokv_r, zokv_n, eq_self]
end O64
