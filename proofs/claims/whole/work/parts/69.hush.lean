/-! ===== hush ===== -/
def zhv (s : Nat → Int32) (p M o : Nat) : Int32 := zwks M (zud s (90 + 8 * o + 7) (nI 1)) (90 + 8 * p + 6)
def zhs (f : Nat → Int32) (p : Nat) : Nat → Nat → Int32 → Int32 → Int32
  | 0, _, b, _ => b
  | m + 1, o, b, mo => if o = p then zhs f p m (o + 1) b mo else if b = -1 then zhs f p m (o + 1) (nI o) (f o) else if f o ≤ mo then zhs f p m (o + 1) b mo else zhs f p m (o + 1) (nI o) (f o)
theorem nI_ge0 {n : Nat} (h : n < 1000) : nI 0 ≤ nI n := nI_le (Nat.zero_le _) (by omega)
theorem nI_nlt0 {n : Nat} (h : n < 1000) : ¬ nI n < nI 0 := nI_nlt (Nat.zero_le _) (by omega)
theorem ztold6 {s : Nat → Int32} {k : Nat} : ztold s k 6 = s (90 + 8 * k + 6) := by
  unfold ztold
  rw [if_neg (by decide), if_neg (by decide)]
def zre (b : Int32) (h : zH) : zU := if b = -1 then (some (.int (zev 2)), zer 2 h) else (some (.int b), h)
section O69
variable (d : Nat) {h : zH}
theorem w30 {M N mk q p : Nat} {s : Nat → Int32} (hM : M < 2 ^ 31) (hq : q < 100) (hp : p < 8) (z : zI s N mk) (h7 : s 7 = nI q) : ∀ (m o : Nat) (b mo : Int32) (s' : Nat → Int32) (h : zH) (a6 : Value), o + m = N → (b = -1 ∨ ∃ i, i < 8 ∧ b = nI i) → zRW 1 s h → zRW 49 s' h → zAg s s' → ∃ h', zXf zT znl (d + 8) 30 43 [.ref 0, .int (nI p), .int (nI M), .int b, .int mo, .int (nI o), a6] [] h = some (zre (zhs (zhv s p M) p m o b mo) h') ∧ ∀ x, ¬ (49 ≤ x ∧ x < 73) → h' x = h x := by
  have hN8 := z.1.2.1
  intro m
  induction m with
  | zero =>
    intro o b mo s' h a6 ho hb r r' ag
    have h12 : h 1 12 = nI N := r.2.2.2.1.2.2.2.1.trans z.1.1
    have a : nI N ≤ nI o := by rw [show o = N by omega]; exact Int32.le_refl _
    refine ⟨h, ?_, fun _ _ => rfl⟩
    rw [q30_43]
    unfold zhs zre
    rcases hb with rfl | ⟨i, hi, rfl⟩
    · have n0 : ¬ nI 0 ≤ (-1 : Int32) := by decide
      simp only [q30_45, q30_46, q30_49, q30_52, q30_135, q30_136, q30_139, q30_140, q30_141, q30_144, q30_148, gf_L0, gf_W12 zW_1, h12, a, n0, ce_1, ce_2, ce_3, ce_4, ce_5, ce_6, cm_1, cm_2, cm_3, cm_4, cm_5, cm_6, rc_L, rc_M, zn1_0, if_true, if_false, ↓reduceIte, Option.bind_some, Option.toList_some, Option.toList_none, List.cons_append, List.nil_append, zB_go, zB_end, zB_no, zokv_i, zokv_r, zokv_n, eq_self]
    · rw [if_neg (zni_m1 (by omega))]
      simp only [q30_45, q30_46, q30_49, q30_52, q30_135, q30_136, q30_147, q30_148, gf_L0, gf_W12 zW_1, h12, a, nI_ge0 (show i < 1000 by omega), ce_1, ce_2, ce_3, ce_4, ce_5, ce_6, cm_1, cm_2, cm_3, cm_4, cm_5, cm_6, rc_L, rc_M, zn1_0, if_true, if_false, ↓reduceIte, Option.bind_some, Option.toList_some, Option.toList_none, List.cons_append, List.nil_append, zB_go, zB_end, zB_no, zokv_i, zokv_r, zokv_n, eq_self]
  | succ m ih =>
    intro o b mo s' h a6 ho hb r r' ag
    have h12 : h 1 12 = nI N := r.2.2.2.1.2.2.2.1.trans z.1.1
    have a : ¬ nI N ≤ nI o := nI_ge (by omega) (by omega)
    unfold zhs
    by_cases op : o = p
    · subst op
      rw [if_pos rfl]
      obtain ⟨h', p1, p2⟩ := ih (o + 1) b mo s' h a6 (by omega) hb r r' ag
      refine ⟨h', ?_, p2⟩
      rw [← p1, q30_43]
      simp only [q30_45, q30_46, q30_49, q30_52, q30_55, q30_57, q30_58, q30_61, q30_129, q30_132, gf_L0, gf_W12 zW_1, h12, a, nI_add, ce_1, ce_2, ce_3, ce_4, ce_5, ce_6, cm_1, cm_2, cm_3, cm_4, cm_5, cm_6, rc_L, rc_M, zn1_0, if_true, if_false, ↓reduceIte, Option.bind_some, Option.toList_some, Option.toList_none, List.cons_append, List.nil_append, zB_go, zB_end, zB_no, zokv_i, zokv_r, zokv_n, eq_self]
    · rw [if_neg op]
      have no : ¬ nI o = nI p := nI_ne op (by omega) (by omega)
      obtain ⟨h1, f1, f2, f3⟩ := c49r (d + 7) (a := 49) (b := 1) zW_49 zW_1 (by decide) r' r z.1.2.2.2.2.2.1 z.1.2.2.2.2.2.2 ag
      have r2 := zRW_pl (w := 49) (k := o) (j := 7) (x := nI 1) (by omega) (by decide) f2
      have zj := zJ_udp (k := o) (j := 7) (x := nI 1) (by omega) (by decide) (zpok7 (by decide)) z.1
      obtain ⟨h2, g1, g2, g3⟩ := c70 (d + 1) (w := 49) (M := M) (h := zup h1 (49 + 4 + o) 7 (nI 1)) zW_49 hM hq zj (by rw [zud_ne (by omega)]; exact h7) r2
      have f5 : ∀ x, ¬ (49 ≤ x ∧ x < 73) → h2 x = h x := fun x hx => by rw [g3 x hx, zup_row_ne (by omega), f3 x (by omega)]
      have pu : h2 (49 + 4 + p) 6 = zhv s p M o := g2.2.2.1 p hp 6 (by decide)
      have o8 : o < 8 := by omega
      have r1' : zRW 1 s h2 := zRW_keep r fun x p1 p2 _ _ _ _ => f5 x (by omega)
      have ag' := zAg_trans (zAg_ud (s := s) (k := o) (j := 7) (x := nI 1) o8 (by decide)) (zAg_wks M zj)
      by_cases b1 : b = -1
      · rw [if_pos b1]
        subst b1
        have n0 : (-1 : Int32) < nI 0 := by decide
        obtain ⟨h', p1, p2⟩ := ih (o + 1) (nI o) (zhv s p M o) _ h2 (.int (zhv s p M o)) (by omega) (Or.inr ⟨o, o8, rfl⟩) r1' g2 ag'
        refine ⟨h', ?_, fun x hx => by rw [p2 x hx, f5 x hx]⟩
        rw [← p1, q30_43]
        simp only [q30_45, q30_46, q30_49, q30_52, q30_55, q30_57, q30_58, q30_64, q30_65, q30_68, q30_69, q30_72, q30_75, q30_76, q30_79, q30_82, q30_84, q30_85, q30_87, q30_88, q30_89, q30_90, q30_93, q30_94, q30_97, q30_98, q30_101, q30_104, q30_105, q30_106, q30_108, q30_109, q30_111, q30_112, q30_122, q30_124, q30_125, q30_127, q30_129, q30_132, gf_L0, gf_L2, gf_W12 zW_1, gf_W2 zW_49, h12, a, no, f1, g1, aal_W zW_49 o8, aal_W zW_49 hp, ast_row zW_49 o8 (show 7 < 8 by decide), ald_row zW_49 hp (show 6 < 8 by decide), pu, n0, rc_W zW_49, nI_add, ce_1, ce_2, ce_3, ce_4, ce_5, ce_6, cm_1, cm_2, cm_3, cm_4, cm_5, cm_6, rc_L, rc_M, zn1_0, if_true, if_false, ↓reduceIte, Option.bind_some, Option.toList_some, Option.toList_none, List.cons_append, List.nil_append, zB_go, zB_end, zB_no, zokv_i, zokv_r, zokv_n, eq_self]
      · rw [if_neg b1]
        rcases hb with hb | ⟨i, hi, rfl⟩
        · exact absurd hb b1
        have n0 := nI_nlt0 (show i < 1000 by omega)
        by_cases le : zhv s p M o ≤ mo
        · rw [if_pos le]
          obtain ⟨h', p1, p2⟩ := ih (o + 1) (nI i) mo _ h2 (.int (zhv s p M o)) (by omega) (Or.inr ⟨i, hi, rfl⟩) r1' g2 ag'
          refine ⟨h', ?_, fun x hx => by rw [p2 x hx, f5 x hx]⟩
          rw [← p1, q30_43]
          simp only [q30_45, q30_46, q30_49, q30_52, q30_55, q30_57, q30_58, q30_64, q30_65, q30_68, q30_69, q30_72, q30_75, q30_76, q30_79, q30_82, q30_84, q30_85, q30_87, q30_88, q30_89, q30_90, q30_93, q30_94, q30_97, q30_98, q30_101, q30_104, q30_105, q30_106, q30_108, q30_109, q30_111, q30_112, q30_115, q30_117, q30_119, q30_129, q30_132, gf_L0, gf_L2, gf_W12 zW_1, gf_W2 zW_49, h12, a, no, f1, g1, aal_W zW_49 o8, aal_W zW_49 hp, ast_row zW_49 o8 (show 7 < 8 by decide), ald_row zW_49 hp (show 6 < 8 by decide), pu, n0, le, rc_W zW_49, nI_add, ce_1, ce_2, ce_3, ce_4, ce_5, ce_6, cm_1, cm_2, cm_3, cm_4, cm_5, cm_6, rc_L, rc_M, zn1_0, if_true, if_false, ↓reduceIte, Option.bind_some, Option.toList_some, Option.toList_none, List.cons_append, List.nil_append, zB_go, zB_end, zB_no, zokv_i, zokv_r, zokv_n, eq_self]
        · rw [if_neg le]
          obtain ⟨h', p1, p2⟩ := ih (o + 1) (nI o) (zhv s p M o) _ h2 (.int (zhv s p M o)) (by omega) (Or.inr ⟨o, o8, rfl⟩) r1' g2 ag'
          refine ⟨h', ?_, fun x hx => by rw [p2 x hx, f5 x hx]⟩
          rw [← p1, q30_43]
          simp only [q30_45, q30_46, q30_49, q30_52, q30_55, q30_57, q30_58, q30_64, q30_65, q30_68, q30_69, q30_72, q30_75, q30_76, q30_79, q30_82, q30_84, q30_85, q30_87, q30_88, q30_89, q30_90, q30_93, q30_94, q30_97, q30_98, q30_101, q30_104, q30_105, q30_106, q30_108, q30_109, q30_111, q30_112, q30_115, q30_117, q30_119, q30_122, q30_124, q30_125, q30_127, q30_129, q30_132, gf_L0, gf_L2, gf_W12 zW_1, gf_W2 zW_49, h12, a, no, f1, g1, aal_W zW_49 o8, aal_W zW_49 hp, ast_row zW_49 o8 (show 7 < 8 by decide), ald_row zW_49 hp (show 6 < 8 by decide), pu, n0, le, rc_W zW_49, nI_add, ce_1, ce_2, ce_3, ce_4, ce_5, ce_6, cm_1, cm_2, cm_3, cm_4, cm_5, cm_6, rc_L, rc_M, zn1_0, if_true, if_false, ↓reduceIte, Option.bind_some, Option.toList_some, Option.toList_none, List.cons_append, List.nil_append, zB_go, zB_end, zB_no, zokv_i, zokv_r, zokv_n, eq_self]
theorem c173 {M N mk p o : Nat} (g : zH) (hM : M < 100) (hp : p < 8) (ho : o < 8) (z : zI (g 92) N mk) : ∃ g', zCf zT znl (d + 12) 173 [.ref 91, .int (nI o), .int (nI p), .int (nI M)] g = some (some (.int (zhv (g 92) p M o)), g') ∧ g' 92 = g 92 ∧ ∀ a, a ≠ 92 → a ≠ 94 → a ≠ 97 → a ≠ 98 → a ≠ 99 → g' a = g a := by
  obtain ⟨g1, eg⟩ : ∃ g1, zup g 92 (90 + 8 * o + 7) (nI 1) = g1 := ⟨_, rfl⟩
  have k1 : g1 92 = zud (g 92) (90 + 8 * o + 7) (nI 1) := by rw [← eg, zup_ud]
  have z1 : zI (g1 92) N mk := by
    rw [k1]
    exact zI_w (zJ_udp ho (by decide) (zpok7 (by decide)) z.1) z (fun y => absurd y (by omega)) (fun y => absurd y (by omega)) (fun y => absurd y (by omega)) (fun y => absurd y (by omega))
  obtain ⟨g2, b1, b2, b3⟩ := c167x (d + 1) (n := M) (k := p) (c := 6) g1 hM hp (by decide) z1
  rw [ztold6, k1] at b1
  refine ⟨zup g2 92 (90 + 8 * o + 7) (g 92 (90 + 8 * o + 7)), ?_, ?_, fun a i1 i2 i3 i4 i5 => by rw [zup_row_ne i1, b3 a i1 i2 i3 i4 i5, ← eg, zup_row_ne i1]⟩
  · unfold zhv
    simp only [e173, q173_0, q173_2, q173_4, q173_5, q173_6, q173_7, q173_9, q173_10, q173_12, q173_13, q173_16, q173_18, q173_19, q173_21, q173_22, q173_25, q173_27, q173_28, q173_29, q173_30, q173_31, q173_32, q173_34, q173_37, q173_39, q173_40, q173_43, q173_45, q173_47, q173_48, q173_50, gf_M0, pk_mul, nI_add, ald_n92 (show 90 + 8 * o + 7 < 488 by omega), ast_n92 (show 90 + 8 * o + 7 < 488 by omega), eg, b1, ce_1, ce_2, ce_3, ce_4, ce_5, ce_6, cm_1, cm_2, cm_3, cm_4, cm_5, cm_6, rc_L, rc_M, zn1_0, if_true, if_false, ↓reduceIte, Option.bind_some, Option.toList_some, Option.toList_none, List.cons_append, List.nil_append, zB_go, zB_end, zB_no, zokv_i, zokv_r, zokv_n, eq_self]
  · rw [zup_ud, b2, k1, zud_zud, zud_self]
theorem w174 {M N mk p : Nat} {s : Nat → Int32} (hM : M < 100) (hp : p < 8) (z : zI s N mk) : ∀ (m o : Nat) (b mo : Int32) (g : zH) (a6 : Value), o + m = N → (b = -1 ∨ ∃ i, i < 8 ∧ b = nI i) → g 92 = s → ∃ g' mo' a6', zXf zT znl (d + 12) 174 29 [.ref 91, .int (nI p), .int (nI M), .int b, .int mo, .int (nI o), a6] [] g = zXf zT znl (d + 12) 174 91 [.ref 91, .int (nI p), .int (nI M), .int (zhs (zhv s p M) p m o b mo), .int mo', .int (nI N), a6'] [] g' ∧ g' 92 = s ∧ ∀ a, a ≠ 92 → a ≠ 94 → a ≠ 97 → a ≠ 98 → a ≠ 99 → g' a = g a := by
  have hN8 := z.1.2.1
  have m0 := z.1.1
  intro m
  induction m with
  | zero =>
    intro o b mo g a6 ho hb e
    have a : nI N ≤ nI o := by rw [show o = N by omega]; exact Int32.le_refl _
    refine ⟨g, mo, a6, ?_, e, fun _ _ _ _ _ _ => rfl⟩
    rw [q174_29]
    simp only [q174_31, q174_32, q174_35, q174_36, q174_37, gf_M0, ald_n92 (show 0 < 488 by decide), e, m0, a, ce_1, ce_2, ce_3, ce_4, ce_5, ce_6, cm_1, cm_2, cm_3, cm_4, cm_5, cm_6, rc_L, rc_M, zn1_0, if_true, if_false, ↓reduceIte, Option.bind_some, Option.toList_some, Option.toList_none, List.cons_append, List.nil_append, zB_go, zB_end, zB_no, zokv_i, zokv_r, zokv_n, eq_self]
    rw [show o = N by omega]
    rfl
  | succ m ih =>
    intro o b mo g a6 ho hb e
    have a : ¬ nI N ≤ nI o := nI_ge (by omega) (by omega)
    unfold zhs
    by_cases op : o = p
    · subst op
      rw [if_pos rfl]
      obtain ⟨g', mo', a6', p1, p2, p3⟩ := ih (o + 1) b mo g (.int (nI 0)) (by omega) hb e
      refine ⟨g', mo', a6', ?_, p2, p3⟩
      rw [← p1, q174_29]
      simp only [q174_31, q174_32, q174_35, q174_36, q174_37, q174_40, q174_42, q174_43, q174_46, q174_47, q174_58, q174_60, q174_62, q174_63, q174_85, q174_88, gf_M0, ald_n92 (show 0 < 488 by decide), e, m0, a, nI_add, ce_1, ce_2, ce_3, ce_4, ce_5, ce_6, cm_1, cm_2, cm_3, cm_4, cm_5, cm_6, rc_L, rc_M, zn1_0, if_true, if_false, ↓reduceIte, Option.bind_some, Option.toList_some, Option.toList_none, List.cons_append, List.nil_append, zB_go, zB_end, zB_no, zokv_i, zokv_r, zokv_n, eq_self]
    · rw [if_neg op]
      have no : ¬ nI o = nI p := nI_ne op (by omega) (by omega)
      have o8 : o < 8 := by omega
      obtain ⟨g1, f1, f2, f3⟩ := c173 d (M := M) (p := p) (o := o) g hM hp o8 (by rw [e]; exact z)
      rw [e] at f1 f2
      by_cases b1 : b = -1
      · rw [if_pos b1]
        subst b1
        obtain ⟨g', mo', a6', p1, p2, p3⟩ := ih (o + 1) (nI o) (zhv s p M o) g1 (.int (zhv s p M o)) (by omega) (Or.inr ⟨o, o8, rfl⟩) f2
        refine ⟨g', mo', a6', ?_, p2, fun a i1 i2 i3 i4 i5 => by rw [p3 a i1 i2 i3 i4 i5, f3 a i1 i2 i3 i4 i5]⟩
        rw [← p1, q174_29]
        simp only [q174_31, q174_32, q174_35, q174_36, q174_37, q174_40, q174_42, q174_43, q174_50, q174_51, q174_53, q174_54, q174_55, q174_58, q174_60, q174_62, q174_63, q174_66, q174_67, q174_68, q174_78, q174_80, q174_81, q174_83, q174_85, q174_88, gf_M0, ald_n92 (show 0 < 488 by decide), e, m0, a, no, f1, nI_add, ce_1, ce_2, ce_3, ce_4, ce_5, ce_6, cm_1, cm_2, cm_3, cm_4, cm_5, cm_6, rc_L, rc_M, zn1_0, if_true, if_false, ↓reduceIte, Option.bind_some, Option.toList_some, Option.toList_none, List.cons_append, List.nil_append, zB_go, zB_end, zB_no, zokv_i, zokv_r, zokv_n, eq_self]
      · rw [if_neg b1]
        by_cases le : zhv s p M o ≤ mo
        · rw [if_pos le]
          obtain ⟨g', mo', a6', p1, p2, p3⟩ := ih (o + 1) b mo g1 (.int (zhv s p M o)) (by omega) hb f2
          refine ⟨g', mo', a6', ?_, p2, fun a i1 i2 i3 i4 i5 => by rw [p3 a i1 i2 i3 i4 i5, f3 a i1 i2 i3 i4 i5]⟩
          rw [← p1, q174_29]
          simp only [q174_31, q174_32, q174_35, q174_36, q174_37, q174_40, q174_42, q174_43, q174_50, q174_51, q174_53, q174_54, q174_55, q174_58, q174_60, q174_62, q174_63, q174_66, q174_67, q174_68, q174_71, q174_73, q174_75, q174_85, q174_88, gf_M0, ald_n92 (show 0 < 488 by decide), e, m0, a, no, b1, le, f1, nI_add, ce_1, ce_2, ce_3, ce_4, ce_5, ce_6, cm_1, cm_2, cm_3, cm_4, cm_5, cm_6, rc_L, rc_M, zn1_0, if_true, if_false, ↓reduceIte, Option.bind_some, Option.toList_some, Option.toList_none, List.cons_append, List.nil_append, zB_go, zB_end, zB_no, zokv_i, zokv_r, zokv_n, eq_self]
        · rw [if_neg le]
          obtain ⟨g', mo', a6', p1, p2, p3⟩ := ih (o + 1) (nI o) (zhv s p M o) g1 (.int (zhv s p M o)) (by omega) (Or.inr ⟨o, o8, rfl⟩) f2
          refine ⟨g', mo', a6', ?_, p2, fun a i1 i2 i3 i4 i5 => by rw [p3 a i1 i2 i3 i4 i5, f3 a i1 i2 i3 i4 i5]⟩
          rw [← p1, q174_29]
          simp only [q174_31, q174_32, q174_35, q174_36, q174_37, q174_40, q174_42, q174_43, q174_50, q174_51, q174_53, q174_54, q174_55, q174_58, q174_60, q174_62, q174_63, q174_66, q174_67, q174_68, q174_71, q174_73, q174_75, q174_78, q174_80, q174_81, q174_83, q174_85, q174_88, gf_M0, ald_n92 (show 0 < 488 by decide), e, m0, a, no, b1, le, f1, nI_add, ce_1, ce_2, ce_3, ce_4, ce_5, ce_6, cm_1, cm_2, cm_3, cm_4, cm_5, cm_6, rc_L, rc_M, zn1_0, if_true, if_false, ↓reduceIte, Option.bind_some, Option.toList_some, Option.toList_none, List.cons_append, List.nil_append, zB_go, zB_end, zB_no, zokv_i, zokv_r, zokv_n, eq_self]
theorem o30 (R : Rel h) (x y : Int32) : zOp (d + 60) 30 174 [.int x, .int y] h := by
  obtain ⟨⟨N, mk, z⟩, r, -⟩ := id R
  obtain ⟨a1, a2, a3, ⟨b1, b2, b3, b4, b5, b6⟩, a5, a6, a7, a8⟩ := id r
  have m0 := z.1.1
  have hN8 := z.1.2.1
  have h12 : h 1 12 = nI N := b4.trans m0
  rcases zpl_c x hN8 with ⟨e, e'⟩ | ⟨p, hp, rfl, e, e'⟩
  · exact zOp_k 1 R (by simp only [e30, q30_0, q30_1, q30_2, q30_5, q30_8, q30_18, q30_19, q30_20, q30_23, c12', h12, e, ce_1, ce_2, ce_3, ce_4, ce_5, ce_6, cm_1, cm_2, cm_3, cm_4, cm_5, cm_6, rc_L, rc_M, zn1_0, if_true, if_false, ↓reduceIte, Option.bind_some, Option.toList_some, Option.toList_none, List.cons_append, List.nil_append, zB_go, zB_end, zB_no, zokv_i, zokv_r, zokv_n, eq_self]) fun g hg => by simp only [e174, q174_0, q174_1, q174_2, q174_5, q174_15, q174_16, q174_17, q174_20, c111, hg 92 (by decide), m0, e', ce_1, ce_2, ce_3, ce_4, ce_5, ce_6, cm_1, cm_2, cm_3, cm_4, cm_5, cm_6, rc_L, rc_M, zn1_0, if_true, if_false, ↓reduceIte, Option.bind_some, Option.toList_some, Option.toList_none, List.cons_append, List.nil_append, zB_go, zB_end, zB_no, zokv_i, zokv_r, zokv_n, eq_self]
  rcases zwi_c y 60 (by decide) with f | ⟨n, hn, rfl, f⟩
  · exact zOp_k 1 R (by simp only [e30, q30_0, q30_1, q30_2, q30_5, q30_8, q30_9, q30_10, q30_12, q30_15, q30_18, q30_19, q30_20, q30_23, c12', c0, h12, e, f, ce_1, ce_2, ce_3, ce_4, ce_5, ce_6, cm_1, cm_2, cm_3, cm_4, cm_5, cm_6, rc_L, rc_M, zn1_0, if_true, if_false, ↓reduceIte, Option.bind_some, Option.toList_some, Option.toList_none, List.cons_append, List.nil_append, zB_go, zB_end, zB_no, zokv_i, zokv_r, zokv_n, eq_self]) fun g hg => by simp only [e174, q174_0, q174_1, q174_2, q174_5, q174_8, q174_9, q174_12, q174_15, q174_16, q174_17, q174_20, c111, c165, hg 92 (by decide), m0, e', f, ce_1, ce_2, ce_3, ce_4, ce_5, ce_6, cm_1, cm_2, cm_3, cm_4, cm_5, cm_6, rc_L, rc_M, zn1_0, if_true, if_false, ↓reduceIte, Option.bind_some, Option.toList_some, Option.toList_none, List.cons_append, List.nil_append, zB_go, zB_end, zB_no, zokv_i, zokv_r, zokv_n, eq_self]
  have p8 : p < 8 := by omega
  obtain ⟨q7, hq, h7⟩ := z.2.1
  obtain ⟨h1, u1, u2, u3⟩ := c50n (d + 57) R
  obtain ⟨h2, v1, v2⟩ := w30 (d + 51) (M := n) (p := p) (by omega) hq p8 z h7 N 0 (-1) (nI 0) (h 92) h1 Value.null (by omega) (Or.inl rfl) (zRW_keep r fun a p1 p2 _ _ _ _ => u3 a (by omega)) u2 (fun _ _ _ _ => rfl)
  have cc : zCf zT znl (d + 60) 30 [.ref 0, .int (nI p), .int (nI n)] h = some (zre (zhs (zhv (h 92) p n) p N 0 (-1) (nI 0)) h2) := by
    simp only [e30, q30_0, q30_1, q30_2, q30_5, q30_8, q30_9, q30_10, q30_12, q30_15, q30_24, q30_25, q30_26, q30_27, q30_29, q30_30, q30_33, q30_34, q30_37, q30_40, q30_41, c12', c0, h12, e, f, gf_L0, gf_L2, u1, v1, rc_W zW_49, ce_1, ce_2, ce_3, ce_4, ce_5, ce_6, cm_1, cm_2, cm_3, cm_4, cm_5, cm_6, rc_L, rc_M, zn1_0, if_true, if_false, ↓reduceIte, Option.bind_some, Option.toList_some, Option.toList_none, List.cons_append, List.nil_append, zB_go, zB_end, zB_no, zokv_i, zokv_r, zokv_n, eq_self]
  have A1 : zAl h h2 := zAl_trans (zAl_49 u3) (zAl_49 v2)
  have k92 : h2 92 = h 92 := by rw [v2 92 (by omega), u3 92 (by omega)]
  have mm : ∀ g : zH, g 92 = h 92 → ∃ g', zCf zT znl (d + 60) 174 [.ref 91, .int (nI p), .int (nI n)] g = (if zhs (zhv (h 92) p n) p N 0 (-1) (nI 0) = -1 then some (some (.int (zev 2)), zem 2 g') else some (some (.int (zhs (zhv (h 92) p n) p N 0 (-1) (nI 0))), g')) ∧ zAl g g' := by
    intro g kg
    obtain ⟨g1, mo', a6', p1, p2, p3⟩ := w174 (d + 47) (M := n) (p := p) (by omega) p8 z N 0 (-1) (nI 0) g Value.null (by omega) (Or.inl rfl) kg
    refine ⟨g1, ?_, zAl_m (by rw [p2, kg]; exact zEq_refl _) p3⟩
    simp only [e174, q174_0, q174_1, q174_2, q174_5, q174_8, q174_9, q174_12, q174_21, q174_22, q174_23, q174_24, q174_26, q174_27, q174_91, q174_92, q174_93, q174_96, q174_97, q174_98, q174_101, q174_104, q174_105, c111, c165, kg, m0, e', f, p1, ce_1, ce_2, ce_3, ce_4, ce_5, ce_6, cm_1, cm_2, cm_3, cm_4, cm_5, cm_6, rc_L, rc_M, zn1_0, if_true, if_false, ↓reduceIte, Option.bind_some, Option.toList_some, Option.toList_none, List.cons_append, List.nil_append, zB_go, zB_end, zB_no, zokv_i, zokv_r, zokv_n, eq_self]
  unfold zre at cc
  by_cases w : zhs (zhv (h 92) p n) p N 0 (-1) (nI 0) = -1
  · rw [if_pos w] at cc
    obtain ⟨g', m1, m2⟩ := mm (zer 2 h2) (by rw [zer_ne (by decide)]; exact k92)
    rw [if_pos w] at m1
    exact zOp_ale 2 R cc m1 A1 m2
  · rw [if_neg w] at cc
    obtain ⟨g', m1, m2⟩ := mm h2 k92
    rw [if_neg w] at m1
    exact zOp_al R cc m1 A1 m2
end O69
