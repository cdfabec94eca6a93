/-! ===== comes ===== -/
/-- behind how many weeks it stands in a cell first -/
def zcs (c : Int32) : Nat → Nat → (Nat → Int32) → Option Nat
  | 0, k, s => if s 1 = c then some k else none
  | n + 1, k, s => if s 1 = c then some k else zcs c n (k + 1) (zweek s)
theorem zcs_le {c : Int32} : ∀ (n k : Nat) (s : Nat → Int32) (j : Nat), zcs c n k s = some j → j ≤ k + n
  | 0, k, s, j, e => by
    unfold zcs at e
    split at e
    · injection e with e; omega
    · cases e
  | n + 1, k, s, j, e => by
    unfold zcs at e
    split at e
    · injection e with e; omega
    · have := zcs_le n (k + 1) (zweek s) j e
      omega
def zcr : Option Nat → zH → zU
  | some j, h => (some (.int (nI j)), h)
  | none, h => (some (.int (zev 2)), zer 2 h)
def zco : Option Nat → Int32
  | some j => nI j
  | none => -1
section O67
variable (d : Nat) {h : zH}
theorem w28 {M N q : Nat} {c : Int32} (hM : M < 2 ^ 31) (hq : q < 100) : ∀ (n k : Nat) (s : Nat → Int32) (h : zH) (mk : Nat), k + n = M → zJ s N mk → s 7 = nI q → zRW 49 s h → ∃ h', zXf zT znl (d + 8) 28 36 [.ref 0, .int c, .int (nI M), .int (nI k)] [] h = some (zcr (zcs c n k s) h') ∧ ∀ x, ¬ (49 ≤ x ∧ x < 73) → h' x = h x := by
  intro n
  induction n with
  | zero =>
    intro k s h mk hk z h7 r
    have a : nI M ≤ nI k := by rw [show k = M by omega]; exact Int32.le_refl _
    have r9 := r.2.2.2.1.1
    refine ⟨h, ?_, fun _ _ => rfl⟩
    rw [q28_36]
    unfold zcs
    by_cases e : s 1 = c
    · rw [if_pos e]
      simp only [q28_37, q28_66, q28_67, q28_70, q28_73, q28_74, q28_77, q28_78, q28_86, gf_L0, gf_L2, gf_W9 zW_49, q28_38, a, r9, e, ce_1, ce_2, ce_3, ce_4, ce_5, ce_6, cm_1, cm_2, cm_3, cm_4, cm_5, cm_6, rc_L, rc_M, zn1_0, if_true, if_false, ↓reduceIte, Option.bind_some, Option.toList_some, Option.toList_none, List.cons_append, List.nil_append, zB_go, zB_end, zB_no, zokv_i, zokv_r, zokv_n, eq_self]
      rfl
    · rw [if_neg e]
      simp only [q28_37, q28_66, q28_67, q28_70, q28_73, q28_74, q28_81, q28_82, q28_83, q28_86, gf_L0, gf_L2, gf_W9 zW_49, q28_38, a, r9, e, ce_1, ce_2, ce_3, ce_4, ce_5, ce_6, cm_1, cm_2, cm_3, cm_4, cm_5, cm_6, rc_L, rc_M, zn1_0, if_true, if_false, ↓reduceIte, Option.bind_some, Option.toList_some, Option.toList_none, List.cons_append, List.nil_append, zB_go, zB_end, zB_no, zokv_i, zokv_r, zokv_n, eq_self]
      rfl
  | succ n ih =>
    intro k s h mk hk z h7 r
    have a : ¬ nI M ≤ nI k := nI_ge (by omega) hM
    have r9 := r.2.2.2.1.1
    unfold zcs
    by_cases e : s 1 = c
    · refine ⟨h, ?_, fun _ _ => rfl⟩
      rw [if_pos e, q28_36]
      simp only [q28_37, q28_38, q28_41, q28_42, q28_45, q28_48, q28_49, q28_66, q28_67, q28_70, q28_73, q28_74, q28_77, q28_78, q28_86, gf_L0, gf_L2, gf_W9 zW_49, a, r9, e, ce_1, ce_2, ce_3, ce_4, ce_5, ce_6, cm_1, cm_2, cm_3, cm_4, cm_5, cm_6, rc_L, rc_M, zn1_0, if_true, if_false, ↓reduceIte, Option.bind_some, Option.toList_some, Option.toList_none, List.cons_append, List.nil_append, zB_go, zB_end, zB_no, zokv_i, zokv_r, zokv_n, eq_self]
      rfl
    · rw [if_neg e]
      obtain ⟨h1, f1, f2, f3⟩ := c70 (d + 1) (w := 49) (M := 1) (h := h) zW_49 (by decide) hq z h7 r
      obtain ⟨m, z'⟩ := zJ_week z
      obtain ⟨h', g1, g2⟩ := ih (k + 1) (zweek s) h1 m (by omega) z' ((zweek_lo z (by decide) (by decide) (by decide)).trans h7) f2
      refine ⟨h', ?_, fun x hx => by rw [g2 x hx, f3 x hx]⟩
      rw [← g1, q28_36]
      simp only [q28_37, q28_38, q28_41, q28_42, q28_45, q28_48, q28_49, q28_52, q28_53, q28_56, q28_57, q28_60, q28_63, gf_L0, gf_L2, gf_W9 zW_49, a, r9, e, f1, rc_W zW_49, nI_add, ce_1, ce_2, ce_3, ce_4, ce_5, ce_6, cm_1, cm_2, cm_3, cm_4, cm_5, cm_6, rc_L, rc_M, zn1_0, if_true, if_false, ↓reduceIte, Option.bind_some, Option.toList_some, Option.toList_none, List.cons_append, List.nil_append, zB_go, zB_end, zB_no, zokv_i, zokv_r, zokv_n, eq_self]
theorem w170 {M N q : Nat} {c : Int32} {a4 : Value} (hM : M < 2 ^ 31) (hq : q < 100) : ∀ (n k : Nat) (g : zH) (mk : Nat), k + n = M → zJ (g 92) N mk → g 92 7 = nI q → ∃ g' k' t, zXf zT znl (d + 8) 170 13 [.ref 91, .int c, .int (nI M), .int (nI k), a4] [] g = zXf zT znl (d + 8) 170 53 [.ref 91, .int c, .int (nI M), .int (nI k'), a4] [.int (zco (zcs c n k (g 92)))] g' ∧ g' 92 = zwks t (g 92) ∧ ∀ a, a ≠ 92 → a ≠ 97 → a ≠ 98 → a ≠ 99 → g' a = g a := by
  intro n
  induction n with
  | zero =>
    intro k g mk hk z h7
    have a : nI M ≤ nI k := by rw [show k = M by omega]; exact Int32.le_refl _
    refine ⟨g, k, 0, ?_, rfl, fun _ _ _ _ _ => rfl⟩
    rw [q170_13]
    unfold zcs
    by_cases e : g 92 1 = c
    · rw [if_pos e]
      simp only [q170_14, q170_15, q170_38, q170_39, q170_42, q170_43, q170_44, q170_45, q170_48, q170_49, gf_M0, ald_n92 (show 1 < 488 by decide), a, e, ce_1, ce_2, ce_3, ce_4, ce_5, ce_6, cm_1, cm_2, cm_3, cm_4, cm_5, cm_6, rc_L, rc_M, zn1_0, if_true, if_false, ↓reduceIte, Option.bind_some, Option.toList_some, Option.toList_none, List.cons_append, List.nil_append, zB_go, zB_end, zB_no, zokv_i, zokv_r, zokv_n, eq_self]
      rfl
    · rw [if_neg e]
      simp only [q170_14, q170_15, q170_38, q170_39, q170_42, q170_43, q170_44, q170_45, q170_52, gf_M0, ald_n92 (show 1 < 488 by decide), a, e, ce_1, ce_2, ce_3, ce_4, ce_5, ce_6, cm_1, cm_2, cm_3, cm_4, cm_5, cm_6, rc_L, rc_M, zn1_0, if_true, if_false, ↓reduceIte, Option.bind_some, Option.toList_some, Option.toList_none, List.cons_append, List.nil_append, zB_go, zB_end, zB_no, zokv_i, zokv_r, zokv_n, eq_self]
      rfl
  | succ n ih =>
    intro k g mk hk z h7
    have a : ¬ nI M ≤ nI k := nI_ge (by omega) hM
    unfold zcs
    by_cases e : g 92 1 = c
    · refine ⟨g, k, 0, ?_, rfl, fun _ _ _ _ _ => rfl⟩
      rw [if_pos e, q170_13]
      simp only [q170_14, q170_15, q170_18, q170_19, q170_22, q170_23, q170_24, q170_25, q170_38, q170_39, q170_42, q170_43, q170_44, q170_45, q170_48, q170_49, gf_M0, ald_n92 (show 1 < 488 by decide), a, e, ce_1, ce_2, ce_3, ce_4, ce_5, ce_6, cm_1, cm_2, cm_3, cm_4, cm_5, cm_6, rc_L, rc_M, zn1_0, if_true, if_false, ↓reduceIte, Option.bind_some, Option.toList_some, Option.toList_none, List.cons_append, List.nil_append, zB_go, zB_end, zB_no, zokv_i, zokv_r, zokv_n, eq_self]
      rfl
    · rw [if_neg e]
      obtain ⟨g1, f1, f2, f3⟩ := c157 (d + 1) (h := g) hq z h7
      obtain ⟨m, z'⟩ := zJ_week z
      obtain ⟨g', k', t, p1, p2, p3⟩ := ih (k + 1) g1 m (by omega) (by rw [f2]; exact z') (by rw [f2]; exact (zweek_lo z (by decide) (by decide) (by decide)).trans h7)
      rw [f2] at p1 p2
      refine ⟨g', k', t + 1, ?_, p2, fun x i1 i2 i3 i4 => by rw [p3 x i1 i2 i3 i4, f3 x i1 i2 i3 i4]⟩
      rw [← p1, q170_13]
      simp only [q170_14, q170_15, q170_18, q170_19, q170_22, q170_23, q170_24, q170_25, q170_28, q170_29, q170_32, q170_35, gf_M0, ald_n92 (show 1 < 488 by decide), a, e, f1, nI_add, ce_1, ce_2, ce_3, ce_4, ce_5, ce_6, cm_1, cm_2, cm_3, cm_4, cm_5, cm_6, rc_L, rc_M, zn1_0, if_true, if_false, ↓reduceIte, Option.bind_some, Option.toList_some, Option.toList_none, List.cons_append, List.nil_append, zB_go, zB_end, zB_no, zokv_i, zokv_r, zokv_n, eq_self]
theorem c170 {n N mk : Nat} {c : Int32} (g : zH) (hn : n < 100) (z : zI (g 92) N mk) : ∃ g', zCf zT znl (d + 10) 170 [.ref 91, .int c, .int (nI n)] g = some (some (.int (zco (zcs c n 0 (g 92)))), g') ∧ g' 92 = g 92 ∧ ∀ a, a ≠ 92 → a ≠ 94 → a ≠ 97 → a ≠ 98 → a ≠ 99 → g' a = g a := by
  obtain ⟨q7, hq, h7⟩ := z.2.1
  obtain ⟨g1, a1, a2, a3⟩ := c109sx (d + 8) g
  have k1 : g1 92 = g 92 := a3 92 (by decide)
  obtain ⟨g2, k', t, b1, b2, b3⟩ := w170 (d + 1) (M := n) (c := c) (a4 := Value.null) (by omega) hq n 0 g1 mk (by omega) (by rw [k1]; exact z.1) (by rw [k1]; exact h7)
  rw [k1] at b1 b2
  obtain ⟨g4, s1, s2, s3⟩ := c109bx (d + 8) g2
  refine ⟨g4, ?_, ?_, fun a i1 i2 i3 i4 i5 => by rw [s3 a i1, b3 a i1 i3 i4 i5, a3 a i2]⟩
  · simp only [e170, q170_0, q170_1, q170_4, q170_5, q170_8, q170_11, q170_12, q170_53, q170_55, q170_56, q170_59, q170_60, q170_63, q170_66, q170_68, gf_M0, gf_M2, a1, b1, s1, ce_1, ce_2, ce_3, ce_4, ce_5, ce_6, cm_1, cm_2, cm_3, cm_4, cm_5, cm_6, rc_L, rc_M, zn1_0, if_true, if_false, ↓reduceIte, Option.bind_some, Option.toList_some, Option.toList_none, List.cons_append, List.nil_append, zB_go, zB_end, zB_no, zokv_i, zokv_r, zokv_n, eq_self]
  · refine zback rfl a2 ?_ ?_ s2
    · rw [b3 94 (by decide) (by decide) (by decide) (by decide)]
    · intro i hi
      rw [b2]
      exact zwks_hi t z.1 (by omega)
theorem o28 (R : Rel h) (x y : Int32) : zOp (d + 60) 28 171 [.int x, .int y] h := by
  obtain ⟨⟨N, mk, z⟩, r, -⟩ := id R
  rcases zwi_c x 79 (by decide) with e | ⟨c, hc, rfl, e⟩
  · exact zOp_k 1 R (by simp only [e28, q28_0, q28_1, q28_4, q28_7, q28_8, q28_9, q28_11, q28_14, q28_17, q28_18, q28_19, q28_22, q28_23, q28_24, q28_27, q28_28, q28_31, q28_34, q28_35, q28_36, q28_37, q28_38, q28_41, q28_42, q28_45, q28_48, q28_49, q28_52, q28_53, q28_56, q28_57, q28_60, q28_63, q28_66, q28_67, q28_70, q28_73, q28_74, q28_77, q28_78, q28_81, q28_82, q28_83, q28_86, c5, e, ce_1, ce_2, ce_3, ce_4, ce_5, ce_6, cm_1, cm_2, cm_3, cm_4, cm_5, cm_6, rc_L, rc_M, zn1_0, if_true, if_false, ↓reduceIte, Option.bind_some, Option.toList_some, Option.toList_none, List.cons_append, List.nil_append, zB_go, zB_end, zB_no, zokv_i, zokv_r, zokv_n, eq_self]) fun g hg => by simp only [e171, q171_0, q171_1, q171_4, q171_7, q171_8, q171_11, q171_14, q171_15, q171_16, q171_19, q171_20, q171_21, q171_22, q171_23, q171_26, q171_27, q171_28, q171_29, q171_32, q171_33, q171_34, q171_37, q171_40, q171_41, c110, e, ce_1, ce_2, ce_3, ce_4, ce_5, ce_6, cm_1, cm_2, cm_3, cm_4, cm_5, cm_6, rc_L, rc_M, zn1_0, if_true, if_false, ↓reduceIte, Option.bind_some, Option.toList_some, Option.toList_none, List.cons_append, List.nil_append, zB_go, zB_end, zB_no, zokv_i, zokv_r, zokv_n, eq_self]
  rcases zwi_c y 60 (by decide) with f | ⟨n, hn, rfl, f⟩
  · exact zOp_k 1 R (by simp only [e28, q28_0, q28_1, q28_4, q28_7, q28_8, q28_9, q28_11, q28_14, q28_17, q28_18, q28_19, q28_22, q28_23, q28_24, q28_27, q28_28, q28_31, q28_34, q28_35, q28_36, q28_37, q28_38, q28_41, q28_42, q28_45, q28_48, q28_49, q28_52, q28_53, q28_56, q28_57, q28_60, q28_63, q28_66, q28_67, q28_70, q28_73, q28_74, q28_77, q28_78, q28_81, q28_82, q28_83, q28_86, c5, c0, e, f, ce_1, ce_2, ce_3, ce_4, ce_5, ce_6, cm_1, cm_2, cm_3, cm_4, cm_5, cm_6, rc_L, rc_M, zn1_0, if_true, if_false, ↓reduceIte, Option.bind_some, Option.toList_some, Option.toList_none, List.cons_append, List.nil_append, zB_go, zB_end, zB_no, zokv_i, zokv_r, zokv_n, eq_self]) fun g hg => by simp only [e171, q171_0, q171_1, q171_4, q171_7, q171_8, q171_11, q171_14, q171_15, q171_16, q171_19, q171_20, q171_21, q171_22, q171_23, q171_26, q171_27, q171_28, q171_29, q171_32, q171_33, q171_34, q171_37, q171_40, q171_41, c110, c165, e, f, ce_1, ce_2, ce_3, ce_4, ce_5, ce_6, cm_1, cm_2, cm_3, cm_4, cm_5, cm_6, rc_L, rc_M, zn1_0, if_true, if_false, ↓reduceIte, Option.bind_some, Option.toList_some, Option.toList_none, List.cons_append, List.nil_append, zB_go, zB_end, zB_no, zokv_i, zokv_r, zokv_n, eq_self]
  obtain ⟨q7, hq, h7⟩ := z.2.1
  obtain ⟨h1, u1, u2, u3⟩ := c50n (d + 57) R
  obtain ⟨h2, v1, v2⟩ := w28 (d + 51) (M := n) (c := nI c) (by omega) hq n 0 (h 92) h1 mk (by omega) z.1 h7 u2
  have cc : zCf zT znl (d + 60) 28 [.ref 0, .int (nI c), .int (nI n)] h = some (zcr (zcs (nI c) n 0 (h 92)) h2) := by
    simp only [e28, q28_0, q28_1, q28_4, q28_7, q28_8, q28_9, q28_11, q28_14, q28_23, q28_24, q28_27, q28_28, q28_31, q28_34, q28_35, c5, c0, e, f, gf_L0, gf_L2, u1, v1, rc_W zW_49, ce_1, ce_2, ce_3, ce_4, ce_5, ce_6, cm_1, cm_2, cm_3, cm_4, cm_5, cm_6, rc_L, rc_M, zn1_0, if_true, if_false, ↓reduceIte, Option.bind_some, Option.toList_some, Option.toList_none, List.cons_append, List.nil_append, zB_go, zB_end, zB_no, zokv_i, zokv_r, zokv_n, eq_self]
  have A1 : zAl h h2 := zAl_trans (zAl_49 u3) (zAl_49 v2)
  have k92 : h2 92 = h 92 := by rw [v2 92 (by omega), u3 92 (by omega)]
  have mm : ∀ g : zH, g 92 = h 92 → ∃ g', zCf zT znl (d + 60) 171 [.ref 91, .int (nI c), .int (nI n)] g = (if zco (zcs (nI c) n 0 (h 92)) = -1 then some (some (.int (zev 2)), zem 2 g') else some (some (.int (zco (zcs (nI c) n 0 (h 92)))), g')) ∧ zAl g g' := by
    intro g kg
    obtain ⟨g', p1, p2, p3⟩ := c170 (d + 49) (n := n) (c := nI c) g (by omega) (by rw [kg]; exact z)
    rw [kg] at p1
    refine ⟨g', ?_, zAl_m (by rw [p2]; exact zEq_refl _) p3⟩
    simp only [e171, q171_0, q171_1, q171_4, q171_7, q171_8, q171_11, q171_14, q171_15, q171_16, q171_19, q171_20, q171_21, q171_22, q171_23, q171_26, q171_27, q171_28, q171_29, q171_32, q171_33, q171_34, q171_37, q171_40, q171_41, c110, c165, e, f, p1, ce_1, ce_2, ce_3, ce_4, ce_5, ce_6, cm_1, cm_2, cm_3, cm_4, cm_5, cm_6, rc_L, rc_M, zn1_0, if_true, if_false, ↓reduceIte, Option.bind_some, Option.toList_some, Option.toList_none, List.cons_append, List.nil_append, zB_go, zB_end, zB_no, zokv_i, zokv_r, zokv_n, eq_self]
  cases w : zcs (nI c) n 0 (h 92) with
  | none =>
    rw [w] at cc mm
    obtain ⟨g', m1, m2⟩ := mm (zer 2 h2) (by rw [zer_ne (by decide)]; exact k92)
    rw [if_pos (show zco none = -1 from rfl)] at m1
    exact zOp_ale 2 R cc m1 A1 m2
  | some j =>
    rw [w] at cc mm
    have := zcs_le n 0 (h 92) j w
    obtain ⟨g', m1, m2⟩ := mm h2 k92
    rw [show zco (some j) = nI j from rfl, if_neg (zni_m1 (by omega))] at m1
    exact zOp_al R cc m1 A1 m2
end O67
