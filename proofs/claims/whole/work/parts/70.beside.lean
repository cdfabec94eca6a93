/-! ===== beside ===== -/
def zbv (s : Nat → Int32) (p M c : Nat) : Int32 := zwks M (zud s (90 + 8 * p + 2) (nI c)) (90 + 8 * p + 6)
def zbs (f : Nat → Int32) : Nat → Nat → Int32 → Int32 → Int32
  | 0, _, b, _ => b
  | m + 1, c, b, mo => if c ≠ 0 ∧ f c ≤ mo then zbs f m (c + 1) b mo else zbs f m (c + 1) (nI c) (f c)
section O70
variable (d : Nat) {h : zH}
theorem w32 {M N mk q p : Nat} {s : Nat → Int32} (hM : M < 2 ^ 31) (hq : q < 100) (hp : p < 8) (z : zI s N mk) (h7 : s 7 = nI q) : ∀ (m c : Nat) (b mo : Int32) (s' : Nat → Int32) (h : zH) (a6 : Value), c + m = 80 → zRW 1 s h → zRW 49 s' h → zAg s s' → ∃ h', zXf zT znl (d + 8) 32 43 [.ref 0, .int (nI p), .int (nI M), .int b, .int mo, .int (nI c), a6] [] h = some (some (.int (zbs (zbv s p M) m c b mo)), h') ∧ ∀ x, ¬ (49 ≤ x ∧ x < 73) → h' x = h x := by
  intro m
  induction m with
  | zero =>
    intro c b mo s' h a6 hc r r' ag
    have a : nI 80 ≤ nI c := by rw [show c = 80 by omega]; exact Int32.le_refl _
    refine ⟨h, ?_, fun _ _ => rfl⟩
    rw [q32_43]
    simp only [q32_45, q32_47, q32_121, q32_122, a, ce_1, ce_2, ce_3, ce_4, ce_5, ce_6, cm_1, cm_2, cm_3, cm_4, cm_5, cm_6, rc_L, rc_M, zn1_0, if_true, if_false, ↓reduceIte, Option.bind_some, Option.toList_some, Option.toList_none, List.cons_append, List.nil_append, zB_go, zB_end, zB_no, zokv_i, zokv_r, zokv_n, eq_self]
    rfl
  | succ m ih =>
    intro c b mo s' h a6 hc r r' ag
    have a : ¬ nI 80 ≤ nI c := nI_ge (by omega) (by decide)
    obtain ⟨h1, f1, f2, f3⟩ := c49r (d + 7) (a := 49) (b := 1) zW_49 zW_1 (by decide) r' r z.1.2.2.2.2.2.1 z.1.2.2.2.2.2.2 ag
    have r2 := zRW_pl (w := 49) (k := p) (j := 2) (x := nI c) hp (by decide) f2
    have zj := zJ_udp (k := p) (j := 2) (x := nI c) hp (by decide) (zpok2 (by omega)) z.1
    obtain ⟨h2, g1, g2, g3⟩ := c70 (d + 1) (w := 49) (M := M) (h := zup h1 (49 + 4 + p) 2 (nI c)) zW_49 hM hq zj (by rw [zud_ne (by omega)]; exact h7) r2
    have f5 : ∀ x, ¬ (49 ≤ x ∧ x < 73) → h2 x = h x := fun x hx => by rw [g3 x hx, zup_row_ne (by omega), f3 x (by omega)]
    have pu : h2 (49 + 4 + p) 6 = zbv s p M c := g2.2.2.1 p hp 6 (by decide)
    have r1' : zRW 1 s h2 := zRW_keep r fun x p1 p2 _ _ _ _ => f5 x (by omega)
    have ag' := zAg_trans (zAg_ud (s := s) (k := p) (j := 2) (x := nI c) hp (by decide)) (zAg_wks M zj)
    unfold zbs
    by_cases w : c ≠ 0 ∧ zbv s p M c ≤ mo
    · rw [if_pos w]
      have n0 : ¬ nI c = nI 0 := nI_ne w.1 (by omega) (by decide)
      have le := w.2
      obtain ⟨h', p1, p2⟩ := ih (c + 1) b mo _ h2 (.int (zbv s p M c)) (by omega) r1' g2 ag'
      refine ⟨h', ?_, fun x hx => by rw [p2 x hx, f5 x hx]⟩
      rw [← p1, q32_43]
      simp only [q32_45, q32_47, q32_50, q32_51, q32_54, q32_55, q32_58, q32_61, q32_62, q32_65, q32_68, q32_69, q32_70, q32_71, q32_73, q32_74, q32_75, q32_78, q32_79, q32_82, q32_83, q32_86, q32_89, q32_90, q32_91, q32_93, q32_94, q32_96, q32_98, q32_101, q32_103, q32_105, q32_115, q32_118, gf_L0, gf_L2, gf_W2 zW_49, a, f1, g1, aal_W zW_49 hp, ast_row zW_49 hp (show 2 < 8 by decide), ald_row zW_49 hp (show 6 < 8 by decide), pu, n0, le, rc_W zW_49, nI_add, ce_1, ce_2, ce_3, ce_4, ce_5, ce_6, cm_1, cm_2, cm_3, cm_4, cm_5, cm_6, rc_L, rc_M, zn1_0, if_true, if_false, ↓reduceIte, Option.bind_some, Option.toList_some, Option.toList_none, List.cons_append, List.nil_append, zB_go, zB_end, zB_no, zokv_i, zokv_r, zokv_n, eq_self]
    · rw [if_neg w]
      obtain ⟨h', p1, p2⟩ := ih (c + 1) (nI c) (zbv s p M c) _ h2 (.int (zbv s p M c)) (by omega) r1' g2 ag'
      refine ⟨h', ?_, fun x hx => by rw [p2 x hx, f5 x hx]⟩
      rw [← p1, q32_43]
      by_cases c0 : c = 0
      · subst c0
        simp only [q32_45, q32_47, q32_50, q32_51, q32_54, q32_55, q32_58, q32_61, q32_62, q32_65, q32_68, q32_69, q32_70, q32_71, q32_73, q32_74, q32_75, q32_78, q32_79, q32_82, q32_83, q32_86, q32_89, q32_90, q32_91, q32_93, q32_94, q32_96, q32_98, q32_108, q32_110, q32_111, q32_113, q32_115, q32_118, gf_L0, gf_L2, gf_W2 zW_49, a, f1, g1, aal_W zW_49 hp, ast_row zW_49 hp (show 2 < 8 by decide), ald_row zW_49 hp (show 6 < 8 by decide), pu, rc_W zW_49, nI_add, ce_1, ce_2, ce_3, ce_4, ce_5, ce_6, cm_1, cm_2, cm_3, cm_4, cm_5, cm_6, rc_L, rc_M, zn1_0, if_true, if_false, ↓reduceIte, Option.bind_some, Option.toList_some, Option.toList_none, List.cons_append, List.nil_append, zB_go, zB_end, zB_no, zokv_i, zokv_r, zokv_n, eq_self]
      · have n0 : ¬ nI c = nI 0 := nI_ne c0 (by omega) (by decide)
        have le : ¬ zbv s p M c ≤ mo := fun q => w ⟨c0, q⟩
        simp only [q32_45, q32_47, q32_50, q32_51, q32_54, q32_55, q32_58, q32_61, q32_62, q32_65, q32_68, q32_69, q32_70, q32_71, q32_73, q32_74, q32_75, q32_78, q32_79, q32_82, q32_83, q32_86, q32_89, q32_90, q32_91, q32_93, q32_94, q32_96, q32_98, q32_101, q32_103, q32_105, q32_108, q32_110, q32_111, q32_113, q32_115, q32_118, gf_L0, gf_L2, gf_W2 zW_49, a, f1, g1, aal_W zW_49 hp, ast_row zW_49 hp (show 2 < 8 by decide), ald_row zW_49 hp (show 6 < 8 by decide), pu, n0, le, rc_W zW_49, nI_add, ce_1, ce_2, ce_3, ce_4, ce_5, ce_6, cm_1, cm_2, cm_3, cm_4, cm_5, cm_6, rc_L, rc_M, zn1_0, if_true, if_false, ↓reduceIte, Option.bind_some, Option.toList_some, Option.toList_none, List.cons_append, List.nil_append, zB_go, zB_end, zB_no, zokv_i, zokv_r, zokv_n, eq_self]
theorem w177 {M N mk p : Nat} {s : Nat → Int32} {was : Int32} (hM : M < 100) (hp : p < 8) (z : zI s N mk) : ∀ (m c : Nat) (b mo : Int32) (g : zH) (x : Int32) (a8 : Value), zokv a8 = true → c + m = 80 → ((c = 0 ∧ b = -1) ∨ (c ≠ 0 ∧ ∃ i, i < c ∧ b = nI i)) → g 92 = zud s (90 + 8 * p + 2) x → ∃ g' mo' x' a8', zXf zT znl (d + 11) 177 51 [.ref 91, .int (nI p), .int (nI M), .int (nI (90 + 8 * p + 2)), .int was, .int b, .int mo, .int (nI c), a8] [] g = zXf zT znl (d + 11) 177 120 [.ref 91, .int (nI p), .int (nI M), .int (nI (90 + 8 * p + 2)), .int was, .int (zbs (zbv s p M) m c b mo), .int mo', .int (nI 80), a8'] [] g' ∧ g' 92 = zud s (90 + 8 * p + 2) x' ∧ ∀ a, a ≠ 92 → a ≠ 94 → a ≠ 97 → a ≠ 98 → a ≠ 99 → g' a = g a := by
  intro m
  induction m with
  | zero =>
    intro c b mo g x a8 h8 hc hb e
    have a : nI 80 ≤ nI c := by rw [show c = 80 by omega]; exact Int32.le_refl _
    refine ⟨g, mo, x, a8, ?_, e, fun _ _ _ _ _ _ => rfl⟩
    rw [q177_51]
    simp only [q177_53, q177_55, a, ce_1, ce_2, ce_3, ce_4, ce_5, ce_6, cm_1, cm_2, cm_3, cm_4, cm_5, cm_6, rc_L, rc_M, zn1_0, if_true, if_false, ↓reduceIte, Option.bind_some, Option.toList_some, Option.toList_none, List.cons_append, List.nil_append, zB_go, zB_end, zB_no, zokv_i, zokv_r, zokv_n, eq_self]
    rw [show c = 80 by omega]
    rfl
  | succ m ih =>
    intro c b mo g x a8 h8 hc hb e
    have a : ¬ nI 80 ≤ nI c := nI_ge (by omega) (by decide)
    obtain ⟨g1, eg⟩ : ∃ g1, zup g 92 (90 + 8 * p + 2) (nI c) = g1 := ⟨_, rfl⟩
    have k1 : g1 92 = zud s (90 + 8 * p + 2) (nI c) := by rw [← eg, zup_ud, e, zud_zud]
    have z1 : zI (g1 92) N mk := by
      rw [k1]
      exact zI_w (zJ_udp hp (by decide) (zpok2 (by omega)) z.1) z (fun y => absurd y (by omega)) (fun y => absurd y (by omega)) (fun y => absurd y (by omega)) (fun y => absurd y (by omega))
    obtain ⟨g2, b1, b2, b3⟩ := c167x (d + 1) (n := M) (k := p) (c := 6) g1 hM hp (by decide) z1
    rw [ztold6, k1] at b1
    rw [k1] at b2
    have b1' : zCf zT znl (d + 11) 167 [.ref 91, .int (nI M), .int (nI p), .int (nI 6)] g1 = some (some (.int (zbv s p M c)), g2) := b1
    have f2 : ∀ a, a ≠ 92 → a ≠ 94 → a ≠ 97 → a ≠ 98 → a ≠ 99 → g2 a = g a := fun a i1 i2 i3 i4 i5 => by rw [b3 a i1 i2 i3 i4 i5, ← eg, zup_row_ne i1]
    unfold zbs
    rcases hb with ⟨rfl, rfl⟩ | ⟨c0, i, hi, rfl⟩
    · rw [if_neg (fun w => w.1 rfl)]
      obtain ⟨g', mo', x', a8', p1, p2, p3⟩ := ih 1 (nI 0) (zbv s p M 0) g2 (nI 0) (.int (zbv s p M 0)) rfl (by omega) (Or.inr ⟨by decide, 0, by decide, rfl⟩) b2
      refine ⟨g', mo', x', a8', ?_, p2, fun a i1 i2 i3 i4 i5 => by rw [p3 a i1 i2 i3 i4 i5, f2 a i1 i2 i3 i4 i5]⟩
      rw [← p1, q177_51]
      simp only [q177_53, q177_55, q177_58, q177_59, q177_62, q177_63, q177_65, q177_66, q177_67, q177_68, q177_69, q177_71, q177_74, q177_76, q177_78, q177_79, q177_89, q177_91, q177_96, q177_98, q177_100, q177_102, q177_105, q177_107, q177_112, q177_114, q177_117, h8, a, gf_M0, ast_n92 (show 90 + 8 * p + 2 < 488 by omega), eg, b1', nI_add, ce_1, ce_2, ce_3, ce_4, ce_5, ce_6, cm_1, cm_2, cm_3, cm_4, cm_5, cm_6, rc_L, rc_M, zn1_0, if_true, if_false, ↓reduceIte, Option.bind_some, Option.toList_some, Option.toList_none, List.cons_append, List.nil_append, zB_go, zB_end, zB_no, zokv_i, zokv_r, zokv_n, eq_self]
    · have nb := zni_m1 (n := i) (by omega)
      have nc : ¬ nI i = nI c := nI_ne (by omega) (by omega) (by omega)
      by_cases le : zbv s p M c ≤ mo
      · rw [if_pos ⟨c0, le⟩]
        obtain ⟨g', mo', x', a8', p1, p2, p3⟩ := ih (c + 1) (nI i) mo g2 (nI c) (.int (zbv s p M c)) rfl (by omega) (Or.inr ⟨by omega, i, by omega, rfl⟩) b2
        refine ⟨g', mo', x', a8', ?_, p2, fun a i1 i2 i3 i4 i5 => by rw [p3 a i1 i2 i3 i4 i5, f2 a i1 i2 i3 i4 i5]⟩
        rw [← p1, q177_51]
        simp only [q177_53, q177_55, q177_58, q177_59, q177_62, q177_63, q177_65, q177_66, q177_67, q177_68, q177_69, q177_71, q177_74, q177_76, q177_78, q177_79, q177_82, q177_84, q177_86, q177_94, q177_96, q177_98, q177_100, q177_102, q177_110, q177_112, q177_114, q177_117, h8, a, gf_M0, ast_n92 (show 90 + 8 * p + 2 < 488 by omega), eg, b1', nb, nc, le, nI_add, ce_1, ce_2, ce_3, ce_4, ce_5, ce_6, cm_1, cm_2, cm_3, cm_4, cm_5, cm_6, rc_L, rc_M, zn1_0, if_true, if_false, ↓reduceIte, Option.bind_some, Option.toList_some, Option.toList_none, List.cons_append, List.nil_append, zB_go, zB_end, zB_no, zokv_i, zokv_r, zokv_n, eq_self]
      · rw [if_neg (fun w => le w.2)]
        obtain ⟨g', mo', x', a8', p1, p2, p3⟩ := ih (c + 1) (nI c) (zbv s p M c) g2 (nI c) (.int (zbv s p M c)) rfl (by omega) (Or.inr ⟨by omega, c, by omega, rfl⟩) b2
        refine ⟨g', mo', x', a8', ?_, p2, fun a i1 i2 i3 i4 i5 => by rw [p3 a i1 i2 i3 i4 i5, f2 a i1 i2 i3 i4 i5]⟩
        rw [← p1, q177_51]
        simp only [q177_53, q177_55, q177_58, q177_59, q177_62, q177_63, q177_65, q177_66, q177_67, q177_68, q177_69, q177_71, q177_74, q177_76, q177_78, q177_79, q177_82, q177_84, q177_86, q177_89, q177_91, q177_96, q177_98, q177_100, q177_102, q177_105, q177_107, q177_112, q177_114, q177_117, h8, a, gf_M0, ast_n92 (show 90 + 8 * p + 2 < 488 by omega), eg, b1', nb, le, nI_add, ce_1, ce_2, ce_3, ce_4, ce_5, ce_6, cm_1, cm_2, cm_3, cm_4, cm_5, cm_6, rc_L, rc_M, zn1_0, if_true, if_false, ↓reduceIte, Option.bind_some, Option.toList_some, Option.toList_none, List.cons_append, List.nil_append, zB_go, zB_end, zB_no, zokv_i, zokv_r, zokv_n, eq_self]
theorem o32 (R : Rel h) (x y : Int32) : zOp (d + 60) 32 177 [.int x, .int y] h := by
  obtain ⟨⟨N, mk, z⟩, r, -⟩ := id R
  obtain ⟨a1, a2, a3, ⟨b1, b2, b3, b4, b5, b6⟩, a5, a6, a7, a8⟩ := id r
  have m0 := z.1.1
  have hN8 := z.1.2.1
  have h12 : h 1 12 = nI N := b4.trans m0
  rcases zpl_c x hN8 with ⟨e, e'⟩ | ⟨p, hp, rfl, e, e'⟩
  · exact zOp_k 1 R (by simp only [e32, q32_0, q32_1, q32_2, q32_5, q32_8, q32_18, q32_19, q32_20, q32_23, c12', h12, e, ce_1, ce_2, ce_3, ce_4, ce_5, ce_6, cm_1, cm_2, cm_3, cm_4, cm_5, cm_6, rc_L, rc_M, zn1_0, if_true, if_false, ↓reduceIte, Option.bind_some, Option.toList_some, Option.toList_none, List.cons_append, List.nil_append, zB_go, zB_end, zB_no, zokv_i, zokv_r, zokv_n, eq_self]) fun g hg => by simp only [e177, q177_0, q177_1, q177_2, q177_5, q177_18, q177_19, q177_20, q177_23, c111, hg 92 (by decide), m0, e', ce_1, ce_2, ce_3, ce_4, ce_5, ce_6, cm_1, cm_2, cm_3, cm_4, cm_5, cm_6, rc_L, rc_M, zn1_0, if_true, if_false, ↓reduceIte, Option.bind_some, Option.toList_some, Option.toList_none, List.cons_append, List.nil_append, zB_go, zB_end, zB_no, zokv_i, zokv_r, zokv_n, eq_self]
  rcases zwi_c y 20 (by decide) with f | ⟨n, hn, rfl, f⟩
  · exact zOp_k 1 R (by simp only [e32, q32_0, q32_1, q32_2, q32_5, q32_8, q32_9, q32_10, q32_12, q32_15, q32_18, q32_19, q32_20, q32_23, c12', c0, h12, e, f, ce_1, ce_2, ce_3, ce_4, ce_5, ce_6, cm_1, cm_2, cm_3, cm_4, cm_5, cm_6, rc_L, rc_M, zn1_0, if_true, if_false, ↓reduceIte, Option.bind_some, Option.toList_some, Option.toList_none, List.cons_append, List.nil_append, zB_go, zB_end, zB_no, zokv_i, zokv_r, zokv_n, eq_self]) fun g hg => by simp only [e177, q177_0, q177_1, q177_2, q177_5, q177_8, q177_9, q177_10, q177_12, q177_15, q177_18, q177_19, q177_20, q177_23, c111, c107, hg 92 (by decide), m0, e', f, ce_1, ce_2, ce_3, ce_4, ce_5, ce_6, cm_1, cm_2, cm_3, cm_4, cm_5, cm_6, rc_L, rc_M, zn1_0, if_true, if_false, ↓reduceIte, Option.bind_some, Option.toList_some, Option.toList_none, List.cons_append, List.nil_append, zB_go, zB_end, zB_no, zokv_i, zokv_r, zokv_n, eq_self]
  have p8 : p < 8 := by omega
  obtain ⟨q7, hq, h7⟩ := z.2.1
  obtain ⟨h1, u1, u2, u3⟩ := c50n (d + 57) R
  obtain ⟨h2, v1, v2⟩ := w32 (d + 51) (M := n) (p := p) (by omega) hq p8 z h7 80 0 (nI 0) (nI 0) (h 92) h1 Value.null (by omega) (zRW_keep r fun a p1 p2 _ _ _ _ => u3 a (by omega)) u2 (fun _ _ _ _ => rfl)
  have A1 : zAl h h2 := zAl_trans (zAl_49 u3) (zAl_49 v2)
  have k92 : h2 92 = h 92 := by rw [v2 92 (by omega), u3 92 (by omega)]
  obtain ⟨g1, mo', x', a8', p1, p2, p3⟩ := w177 (d + 48) (M := n) (was := h 92 (90 + 8 * p + 2)) (by omega) p8 z 80 0 (-1) (nI 0) h2 (h 92 (90 + 8 * p + 2)) Value.null rfl (by omega) (Or.inl ⟨rfl, rfl⟩) (by rw [k92, zud_self])
  have eb : zbs (zbv (h 92) p n) 80 0 (-1) (nI 0) = zbs (zbv (h 92) p n) 80 0 (nI 0) (nI 0) := by
    show (if (0 : Nat) ≠ 0 ∧ _ then _ else _) = (if (0 : Nat) ≠ 0 ∧ _ then _ else _)
    rw [if_neg (fun w => w.1 rfl), if_neg (fun w => w.1 rfl)]
  rw [eb] at p1
  refine zOp_al (x := zbs (zbv (h 92) p n) 80 0 (nI 0) (nI 0)) (h1 := h2) (h2 := zup g1 92 (90 + 8 * p + 2) (h 92 (90 + 8 * p + 2))) R ?_ ?_ A1 (zAl_m ?_ fun a i1 i2 i3 i4 i5 => by rw [zup_row_ne i1, p3 a i1 i2 i3 i4 i5])
  · simp only [e32, q32_0, q32_1, q32_2, q32_5, q32_8, q32_9, q32_10, q32_12, q32_15, q32_24, q32_25, q32_26, q32_27, q32_29, q32_30, q32_33, q32_34, q32_37, q32_40, q32_41, c12', c0, h12, e, f, gf_L0, gf_L2, u1, v1, rc_W zW_49, ce_1, ce_2, ce_3, ce_4, ce_5, ce_6, cm_1, cm_2, cm_3, cm_4, cm_5, cm_6, rc_L, rc_M, zn1_0, if_true, if_false, ↓reduceIte, Option.bind_some, Option.toList_some, Option.toList_none, List.cons_append, List.nil_append, zB_go, zB_end, zB_no, zokv_i, zokv_r, zokv_n, eq_self]
  · simp only [e177, q177_0, q177_1, q177_2, q177_5, q177_8, q177_9, q177_10, q177_12, q177_15, q177_24, q177_26, q177_28, q177_29, q177_30, q177_31, q177_32, q177_33, q177_34, q177_35, q177_38, q177_39, q177_40, q177_42, q177_43, q177_45, q177_46, q177_48, q177_49, q177_120, q177_121, q177_124, q177_125, q177_127, q177_128, q177_130, c111, c107, k92, m0, e', f, pk_mul, nI_add, gf_M0, ald_n92 (show 90 + 8 * p + 2 < 488 by omega), ast_n92 (show 90 + 8 * p + 2 < 488 by omega), p1, ce_1, ce_2, ce_3, ce_4, ce_5, ce_6, cm_1, cm_2, cm_3, cm_4, cm_5, cm_6, rc_L, rc_M, zn1_0, if_true, if_false, ↓reduceIte, Option.bind_some, Option.toList_some, Option.toList_none, List.cons_append, List.nil_append, zB_go, zB_end, zB_no, zokv_i, zokv_r, zokv_n, eq_self]
  · rw [zup_ud, p2, zud_zud, zud_self, k92]
    exact zEq_refl _
end O70
