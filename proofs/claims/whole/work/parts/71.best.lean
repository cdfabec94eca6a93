/-! ===== sums over places; best ===== -/
def zfsum (f : Nat → Int32) : Int32 → Nat → Nat → Int32
  | a, _, 0 => a
  | a, j, n + 1 => zfsum f (a + f j) (j + 1) n
def zwsum (s : Nat → Int32) (c : Nat) : Int32 := zfsum (fun j => nI (zwo s j c)) (nI 0) 0 (zn s 0)
def zbt (s : Nat → Int32) (f : Nat → Int32) : Nat → Nat → Int32 → Int32
  | 0, _, b => b
  | m + 1, c, b => if s (10 + c) = nI 1 then zbt s f m (c + 1) b else if b = -1 then zbt s f m (c + 1) (nI c) else if f c ≤ f b.toNatClampNeg then zbt s f m (c + 1) b else zbt s f m (c + 1) (nI c)
section O71
variable (d : Nat) {h : zH}
theorem c3w {w k c : Nat} {s : Nat → Int32} (hw : zW w) (hk : k < 8) (r : zRW w s h) (p : zP s k) (lc : c < 80) : zCf zT znl (d + 3) 3 [.ref (w + 4 + k), .int (nI c)] h = some (some (.int (nI (zwo s k c))), h) := by
  obtain ⟨kd, m, hm, vo, ho, gd, hu, l0, l1, l2, l3, l4, l5, l7, p0, p1, p2, p3, p4, p5, p7⟩ := p
  have ew : zwo s k c = nworth gd m hm c := by
    unfold zwo
    rw [zn_of p5 (by omega), zn_of p1 (by omega), zn_of p2 (by omega)]
  rw [ew]
  exact c3 d h hw hk ((r.2.2.1 k hk 5 (by decide)).trans p5) ((r.2.2.1 k hk 1 (by decide)).trans p1) ((r.2.2.1 k hk 2 (by decide)).trans p2) l5 l1 l2 lc
theorem c128w {k c : Nat} (hk : k < 8) (p : zP (h 92) k) (lc : c < 80) : zCf zT znl (d + 3) 128 [.ref 91, .int (nI k), .int (nI c)] h = some (some (.int (nI (zwo (h 92) k c))), h) := by
  obtain ⟨kd, m, hm, vo, ho, gd, hu, l0, l1, l2, l3, l4, l5, l7, p0, p1, p2, p3, p4, p5, p7⟩ := p
  have ew : zwo (h 92) k c = nworth gd m hm c := by
    unfold zwo
    rw [zn_of p5 (by omega), zn_of p1 (by omega), zn_of p2 (by omega)]
  rw [ew]
  exact c128 d h hk p5 p1 p2 l5 l1 l2 lc
theorem w73 {w N mk c : Nat} {s : Nat → Int32} (hw : zW w) (z : zJ s N mk) (r : zRW w s h) (lc : c < 80) : ∀ (n j : Nat) (a : Int32), j + n = N → zXf zT znl (d + 3) 73 4 [.ref w, .int (nI c), .int a, .int (nI j)] [] h = some (some (.int (zfsum (fun j => nI (zwo s j c)) a j n)), h) := by
  have h12 : h w 12 = nI N := r.2.2.2.1.2.2.2.1.trans z.1
  have hN8 := z.2.1
  intro n
  induction n with
  | zero =>
    intro j a hj
    have le : nI N ≤ nI j := by rw [show j = N by omega]; exact Int32.le_refl _
    rw [q73_4]
    simp only [q73_5, q73_6, q73_9, q73_31, q73_32, gf_W12 hw, h12, le, zn1_0, if_true, if_false, ↓reduceIte, Option.bind_some, Option.toList_some, Option.toList_none, List.cons_append, List.nil_append, zB_go, zB_end, zB_no, zokv_i, zokv_r, zokv_n, eq_self]
    rfl
  | succ n ih =>
    intro j a hj
    have le : ¬ nI N ≤ nI j := nI_ge (by omega) (by omega)
    have j8 : j < 8 := by omega
    have v := fun d => c3w d hw j8 r (z.2.2.2.2.1 j j8) lc
    show _ = some (some (Value.int (zfsum (fun j => nI (zwo s j c)) (a + nI (zwo s j c)) (j + 1) n)), h)
    rw [← ih (j + 1) (a + nI (zwo s j c)) (by omega), q73_4]
    simp only [q73_5, q73_6, q73_9, q73_12, q73_13, q73_14, q73_17, q73_18, q73_19, q73_20, q73_23, q73_24, q73_25, q73_28, gf_W12 hw, gf_W2 hw, aal_W hw j8, h12, le, v, nI_add, zn1_0, if_true, if_false, ↓reduceIte, Option.bind_some, Option.toList_some, Option.toList_none, List.cons_append, List.nil_append, zB_go, zB_end, zB_no, zokv_i, zokv_r, zokv_n, eq_self]
theorem c73 {w N mk c : Nat} {s : Nat → Int32} (hw : zW w) (z : zJ s N mk) (r : zRW w s h) (lc : c < 80) : zCf zT znl (d + 4) 73 [.ref w, .int (nI c)] h = some (some (.int (zwsum s c)), h) := by
  have v := w73 d hw z r lc N 0 (nI 0) (Nat.zero_add N)
  have hN8 := z.2.1
  unfold zwsum
  rw [zn_of z.1 (by omega), ← v]
  simp only [e73, q73_0, q73_1, q73_2, q73_3, Option.bind_some, Option.toList_some, Option.toList_none, List.cons_append, List.nil_append, zB_go, zB_end, zB_no, zokv_i, zokv_r, zokv_n, eq_self]
theorem w175 {N mk c : Nat} (z : zJ (h 92) N mk) (lc : c < 80) : ∀ (n j : Nat) (a : Int32), j + n = N → zXf zT znl (d + 3) 175 4 [.ref 91, .int (nI c), .int a, .int (nI j)] [] h = some (some (.int (zfsum (fun j => nI (zwo (h 92) j c)) a j n)), h) := by
  have hN8 := z.2.1
  have m0 := z.1
  intro n
  induction n with
  | zero =>
    intro j a hj
    have le : nI N ≤ nI j := by rw [show j = N by omega]; exact Int32.le_refl _
    rw [q175_4]
    simp only [q175_5, q175_6, q175_9, q175_10, q175_11, q175_29, q175_30, gf_M0, ald_n92 (show 0 < 488 by decide), m0, le, zn1_0, if_true, if_false, ↓reduceIte, Option.bind_some, Option.toList_some, Option.toList_none, List.cons_append, List.nil_append, zB_go, zB_end, zB_no, zokv_i, zokv_r, zokv_n, eq_self]
    rfl
  | succ n ih =>
    intro j a hj
    have le : ¬ nI N ≤ nI j := nI_ge (by omega) (by omega)
    have j8 : j < 8 := by omega
    have v := fun d => c128w d (h := h) j8 (z.2.2.2.2.1 j j8) lc
    show _ = some (some (Value.int (zfsum (fun j => nI (zwo (h 92) j c)) (a + nI (zwo (h 92) j c)) (j + 1) n)), h)
    rw [← ih (j + 1) (a + nI (zwo (h 92) j c)) (by omega), q175_4]
    simp only [q175_5, q175_6, q175_9, q175_10, q175_11, q175_14, q175_15, q175_16, q175_17, q175_18, q175_21, q175_22, q175_23, q175_26, gf_M0, ald_n92 (show 0 < 488 by decide), m0, le, v, rc_M, nI_add, zn1_0, if_true, if_false, ↓reduceIte, Option.bind_some, Option.toList_some, Option.toList_none, List.cons_append, List.nil_append, zB_go, zB_end, zB_no, zokv_i, zokv_r, zokv_n, eq_self]
theorem c175 {N mk c : Nat} (z : zJ (h 92) N mk) (lc : c < 80) : zCf zT znl (d + 4) 175 [.ref 91, .int (nI c)] h = some (some (.int (zwsum (h 92) c)), h) := by
  have v := w175 d z lc N 0 (nI 0) (Nat.zero_add N)
  have hN8 := z.2.1
  unfold zwsum
  rw [zn_of z.1 (by omega), ← v]
  simp only [e175, q175_0, q175_1, q175_2, q175_3, Option.bind_some, Option.toList_some, Option.toList_none, List.cons_append, List.nil_append, zB_go, zB_end, zB_no, zokv_i, zokv_r, zokv_n, eq_self]
theorem w31 {N mk : Nat} {s : Nat → Int32} {w : Int32} (z : zJ s N mk) (r : zRW 1 s h) : ∀ (m c : Nat) (b mo : Int32) (a5 : Value), c + m = 80 → (b = -1 ∨ ∃ i, i < 80 ∧ b = nI i ∧ mo = zwsum s i) → ∃ b' mo' a5', b' = zbt s (zwsum s) m c b ∧ zXf zT znl (d + 4) 31 22 [.ref 0, .int w, .int b, .int mo, .int (nI c), a5] [] h = zXf zT znl (d + 4) 31 79 [.ref 0, .int w, .int b', .int mo', .int (nI 80), a5'] [] h ∧ (b' = -1 ∨ ∃ i, i < 80 ∧ b' = nI i ∧ mo' = zwsum s i) := by
  intro m
  induction m with
  | zero =>
    intro c b mo a5 hc hb
    have a : nI 80 ≤ nI c := by rw [show c = 80 by omega]; exact Int32.le_refl _
    refine ⟨b, mo, a5, rfl, ?_, hb⟩
    rw [q31_22]
    simp only [q31_24, q31_26, a, zn1_0, if_true, if_false, ↓reduceIte, Option.bind_some, Option.toList_some, Option.toList_none, List.cons_append, List.nil_append, zB_go, zB_end, zB_no, zokv_i, zokv_r, zokv_n, eq_self]
    rw [show c = 80 by omega]
  | succ m ih =>
    intro c b mo a5 hc hb
    have a : ¬ nI 80 ≤ nI c := nI_ge (by omega) (by decide)
    have g1 : h (1 + 1) c = s (10 + c) := r.1 c (by omega)
    unfold zbt
    by_cases q : s (10 + c) = nI 1
    · rw [if_pos q]
      obtain ⟨b', mo', a5', p1, p2, p3⟩ := ih (c + 1) b mo a5 (by omega) hb
      refine ⟨b', mo', a5', p1, ?_, p3⟩
      rw [← p2, q31_22]
      simp only [q31_24, q31_26, q31_29, q31_30, q31_33, q31_36, q31_38, q31_39, q31_40, q31_43, q31_73, q31_76, gf_L0, gf_W0 zW_1, ald_W1 zW_1 (show c < 80 by omega), a, g1, q, nI_add, zn1_0, if_true, if_false, ↓reduceIte, Option.bind_some, Option.toList_some, Option.toList_none, List.cons_append, List.nil_append, zB_go, zB_end, zB_no, zokv_i, zokv_r, zokv_n, eq_self]
    · rw [if_neg q]
      have v := fun d => c73 d zW_1 z r (show c < 80 by omega)
      rcases hb with rfl | ⟨i, hi, rfl, rfl⟩
      · rw [if_pos rfl]
        have n0 : (-1 : Int32) < nI 0 := by decide
        obtain ⟨b', mo', a5', p1, p2, p3⟩ := ih (c + 1) (nI c) (zwsum s c) (.int (zwsum s c)) (by omega) (Or.inr ⟨c, by omega, rfl, rfl⟩)
        refine ⟨b', mo', a5', p1, ?_, p3⟩
        rw [← p2, q31_22]
        simp only [q31_24, q31_26, q31_29, q31_30, q31_33, q31_36, q31_38, q31_39, q31_40, q31_46, q31_47, q31_50, q31_52, q31_55, q31_57, q31_58, q31_67, q31_69, q31_70, q31_72, q31_73, q31_76, gf_L0, gf_W0 zW_1, ald_W1 zW_1 (show c < 80 by omega), a, g1, q, v, n0, rc_W zW_1, nI_add, zn1_0, if_true, if_false, ↓reduceIte, Option.bind_some, Option.toList_some, Option.toList_none, List.cons_append, List.nil_append, zB_go, zB_end, zB_no, zokv_i, zokv_r, zokv_n, eq_self]
      · rw [if_neg (zni_m1 (by omega)), nI_clamp (by omega)]
        have n0 := nI_nlt0 (show i < 1000 by omega)
        by_cases le : zwsum s c ≤ zwsum s i
        · rw [if_pos le]
          obtain ⟨b', mo', a5', p1, p2, p3⟩ := ih (c + 1) (nI i) (zwsum s i) (.int (zwsum s c)) (by omega) (Or.inr ⟨i, by omega, rfl, rfl⟩)
          refine ⟨b', mo', a5', p1, ?_, p3⟩
          rw [← p2, q31_22]
          simp only [q31_24, q31_26, q31_29, q31_30, q31_33, q31_36, q31_38, q31_39, q31_40, q31_46, q31_47, q31_50, q31_52, q31_55, q31_57, q31_58, q31_61, q31_63, q31_64, q31_73, q31_76, gf_L0, gf_W0 zW_1, ald_W1 zW_1 (show c < 80 by omega), a, g1, q, v, n0, le, rc_W zW_1, nI_add, zn1_0, if_true, if_false, ↓reduceIte, Option.bind_some, Option.toList_some, Option.toList_none, List.cons_append, List.nil_append, zB_go, zB_end, zB_no, zokv_i, zokv_r, zokv_n, eq_self]
        · rw [if_neg le]
          obtain ⟨b', mo', a5', p1, p2, p3⟩ := ih (c + 1) (nI c) (zwsum s c) (.int (zwsum s c)) (by omega) (Or.inr ⟨c, by omega, rfl, rfl⟩)
          refine ⟨b', mo', a5', p1, ?_, p3⟩
          rw [← p2, q31_22]
          simp only [q31_24, q31_26, q31_29, q31_30, q31_33, q31_36, q31_38, q31_39, q31_40, q31_46, q31_47, q31_50, q31_52, q31_55, q31_57, q31_58, q31_61, q31_63, q31_64, q31_67, q31_69, q31_70, q31_72, q31_73, q31_76, gf_L0, gf_W0 zW_1, ald_W1 zW_1 (show c < 80 by omega), a, g1, q, v, n0, le, rc_W zW_1, nI_add, zn1_0, if_true, if_false, ↓reduceIte, Option.bind_some, Option.toList_some, Option.toList_none, List.cons_append, List.nil_append, zB_go, zB_end, zB_no, zokv_i, zokv_r, zokv_n, eq_self]
theorem w176 {N mk : Nat} {w : Int32} (z : zJ (h 92) N mk) : ∀ (m c : Nat) (b : Int32) (a4 : Value), c + m = 80 → (b = -1 ∨ ∃ i, i < 80 ∧ b = nI i) → ∃ a4', zXf zT znl (d + 5) 176 19 [.ref 91, .int w, .int b, .int (nI c), a4] [] h = zXf zT znl (d + 5) 176 75 [.ref 91, .int w, .int (zbt (h 92) (zwsum (h 92)) m c b), .int (nI 80), a4'] [] h := by
  intro m
  induction m with
  | zero =>
    intro c b a4 hc hb
    have a : nI 80 ≤ nI c := by rw [show c = 80 by omega]; exact Int32.le_refl _
    refine ⟨a4, ?_⟩
    rw [q176_19]
    simp only [q176_20, q176_22, a, zn1_0, if_true, if_false, ↓reduceIte, Option.bind_some, Option.toList_some, Option.toList_none, List.cons_append, List.nil_append, zB_go, zB_end, zB_no, zokv_i, zokv_r, zokv_n, eq_self]
    rw [show c = 80 by omega]
    rfl
  | succ m ih =>
    intro c b a4 hc hb
    have a : ¬ nI 80 ≤ nI c := nI_ge (by omega) (by decide)
    have c15 := fun (d : Nat) => c115 d h (show c < 478 by omega)
    unfold zbt
    by_cases q : h 92 (10 + c) = nI 1
    · rw [if_pos q]
      obtain ⟨a4', p2⟩ := ih (c + 1) b (.int (nI 0)) (by omega) hb
      refine ⟨a4', ?_⟩
      rw [← p2, q176_19]
      simp only [q176_20, q176_22, q176_25, q176_26, q176_27, q176_30, q176_55, q176_56, q176_58, q176_60, q176_67, q176_68, q176_69, q176_72, c15, q, a, rc_M, nI_add, zn1_0, if_true, if_false, ↓reduceIte, Option.bind_some, Option.toList_some, Option.toList_none, List.cons_append, List.nil_append, zB_go, zB_end, zB_no, zokv_i, zokv_r, zokv_n, eq_self]
    · rw [if_neg q]
      have v := fun d => c175 d z (show c < 80 by omega)
      rcases hb with rfl | ⟨i, hi, rfl⟩
      · rw [if_pos rfl]
        obtain ⟨a4', p2⟩ := ih (c + 1) (nI c) (.int (nI 1)) (by omega) (Or.inr ⟨c, by omega, rfl⟩)
        refine ⟨a4', ?_⟩
        rw [← p2, q176_19]
        simp only [q176_20, q176_22, q176_25, q176_26, q176_27, q176_30, q176_33, q176_34, q176_35, q176_51, q176_52, q176_56, q176_58, q176_60, q176_63, q176_64, q176_68, q176_69, q176_72, c15, q, a, rc_M, nI_add, zn1_0, if_true, if_false, ↓reduceIte, Option.bind_some, Option.toList_some, Option.toList_none, List.cons_append, List.nil_append, zB_go, zB_end, zB_no, zokv_i, zokv_r, zokv_n, eq_self]
      · have nb := zni_m1 (show i < 1000 by omega)
        have v2 := fun d => c175 d z hi
        rw [if_neg nb, nI_clamp (by omega)]
        by_cases le : zwsum (h 92) c ≤ zwsum (h 92) i
        · rw [if_pos le]
          obtain ⟨a4', p2⟩ := ih (c + 1) (nI i) (.int (nI 0)) (by omega) (Or.inr ⟨i, by omega, rfl⟩)
          refine ⟨a4', ?_⟩
          rw [← p2, q176_19]
          simp only [q176_20, q176_22, q176_25, q176_26, q176_27, q176_30, q176_33, q176_34, q176_35, q176_38, q176_39, q176_40, q176_43, q176_44, q176_45, q176_48, q176_55, q176_56, q176_58, q176_60, q176_67, q176_68, q176_69, q176_72, c15, q, a, nb, v, v2, le, rc_M, nI_add, zn1_0, if_true, if_false, ↓reduceIte, Option.bind_some, Option.toList_some, Option.toList_none, List.cons_append, List.nil_append, zB_go, zB_end, zB_no, zokv_i, zokv_r, zokv_n, eq_self]
        · rw [if_neg le]
          obtain ⟨a4', p2⟩ := ih (c + 1) (nI c) (.int (nI 1)) (by omega) (Or.inr ⟨c, by omega, rfl⟩)
          refine ⟨a4', ?_⟩
          rw [← p2, q176_19]
          simp only [q176_20, q176_22, q176_25, q176_26, q176_27, q176_30, q176_33, q176_34, q176_35, q176_38, q176_39, q176_40, q176_43, q176_44, q176_45, q176_48, q176_51, q176_52, q176_56, q176_58, q176_60, q176_63, q176_64, q176_68, q176_69, q176_72, c15, q, a, nb, v, v2, le, rc_M, nI_add, zn1_0, if_true, if_false, ↓reduceIte, Option.bind_some, Option.toList_some, Option.toList_none, List.cons_append, List.nil_append, zB_go, zB_end, zB_no, zokv_i, zokv_r, zokv_n, eq_self]
theorem o31 (R : Rel h) (x : Int32) : zOp (d + 60) 31 176 [.int x] h := by
  obtain ⟨⟨N, mk, z⟩, r, -⟩ := id R
  rcases zwi_c x 1 (by decide) with e | ⟨c, hc, rfl, e⟩
  · exact zOp_k 1 R (by simp only [e31, q31_0, q31_1, q31_2, q31_3, q31_6, q31_9, q31_10, q31_11, q31_14, c0, e, ce_1, ce_2, ce_3, ce_4, ce_5, ce_6, cm_1, cm_2, cm_3, cm_4, cm_5, cm_6, rc_L, rc_M, zn1_0, if_true, if_false, ↓reduceIte, Option.bind_some, Option.toList_some, Option.toList_none, List.cons_append, List.nil_append, zB_go, zB_end, zB_no, zokv_i, zokv_r, zokv_n, eq_self]) fun g hg => by simp only [e176, q176_0, q176_1, q176_2, q176_3, q176_6, q176_9, q176_10, q176_11, q176_14, c107, e, ce_1, ce_2, ce_3, ce_4, ce_5, ce_6, cm_1, cm_2, cm_3, cm_4, cm_5, cm_6, rc_L, rc_M, zn1_0, if_true, if_false, ↓reduceIte, Option.bind_some, Option.toList_some, Option.toList_none, List.cons_append, List.nil_append, zB_go, zB_end, zB_no, zokv_i, zokv_r, zokv_n, eq_self]
  obtain ⟨b', mo', a5', p1, p2, p3⟩ := w31 (d + 55) (w := nI c) z.1 r 80 0 (-1) (nI 0) Value.null (by omega) (Or.inl rfl)
  have mm : ∀ g : zH, g 92 = h 92 → ∃ a4', zCf zT znl (d + 60) 176 [.ref 91, .int (nI c)] g = zXf zT znl (d + 59) 176 75 [.ref 91, .int (nI c), .int b', .int (nI 80), a4'] [] g := by
    intro g kg
    obtain ⟨a4', q1⟩ := w176 (d + 54) (h := g) (w := nI c) (by rw [kg]; exact z.1) 80 0 (-1) Value.null (by omega) (Or.inl rfl)
    rw [kg, ← p1] at q1
    refine ⟨a4', ?_⟩
    simp only [e176, q176_0, q176_1, q176_2, q176_3, q176_6, q176_15, q176_16, q176_17, q176_18, c107, e, q1, ce_1, ce_2, ce_3, ce_4, ce_5, ce_6, cm_1, cm_2, cm_3, cm_4, cm_5, cm_6, rc_L, rc_M, zn1_0, if_true, if_false, ↓reduceIte, Option.bind_some, Option.toList_some, Option.toList_none, List.cons_append, List.nil_append, zB_go, zB_end, zB_no, zokv_i, zokv_r, zokv_n, eq_self]
  rcases p3 with rfl | ⟨i, hi, rfl, rfl⟩
  · have n0 : ¬ nI 0 ≤ (-1 : Int32) := by decide
    refine zOp_k 2 R (by simp only [e31, q31_0, q31_1, q31_2, q31_3, q31_6, q31_15, q31_16, q31_17, q31_18, q31_19, q31_20, q31_79, q31_80, q31_83, q31_84, q31_85, q31_88, c0, e, p2, n0, ce_1, ce_2, ce_3, ce_4, ce_5, ce_6, cm_1, cm_2, cm_3, cm_4, cm_5, cm_6, rc_L, rc_M, zn1_0, if_true, if_false, ↓reduceIte, Option.bind_some, Option.toList_some, Option.toList_none, List.cons_append, List.nil_append, zB_go, zB_end, zB_no, zokv_i, zokv_r, zokv_n, eq_self]) fun g hg => ?_
    obtain ⟨a4', q1⟩ := mm g (hg 92 (by decide))
    rw [q1]
    simp only [q176_75, q176_76, q176_77, q176_80, q176_81, q176_82, q176_85, q176_101, ce_1, ce_2, ce_3, ce_4, ce_5, ce_6, cm_1, cm_2, cm_3, cm_4, cm_5, cm_6, rc_L, rc_M, zn1_0, if_true, if_false, ↓reduceIte, Option.bind_some, Option.toList_some, Option.toList_none, List.cons_append, List.nil_append, zB_go, zB_end, zB_no, zokv_i, zokv_r, zokv_n, eq_self]
  · obtain ⟨a4', q1⟩ := mm h rfl
    have n0 := nI_ge0 (show i < 1000 by omega)
    have nb := zni_m1 (show i < 1000 by omega)
    have v2 := fun d => c175 d z.1 hi
    obtain rfl | rfl : c = 0 ∨ c = 1 := by omega
    · refine zOp_p (x := nI i) R ?_ ?_
      · simp only [e31, q31_0, q31_1, q31_2, q31_3, q31_6, q31_15, q31_16, q31_17, q31_18, q31_19, q31_20, q31_79, q31_80, q31_89, q31_90, q31_93, q31_94, q31_98, c0, e, p2, n0, ce_1, ce_2, ce_3, ce_4, ce_5, ce_6, cm_1, cm_2, cm_3, cm_4, cm_5, cm_6, rc_L, rc_M, zn1_0, if_true, if_false, ↓reduceIte, Option.bind_some, Option.toList_some, Option.toList_none, List.cons_append, List.nil_append, zB_go, zB_end, zB_no, zokv_i, zokv_r, zokv_n, eq_self]
      · rw [q1]
        simp only [q176_75, q176_76, q176_77, q176_88, q176_89, q176_92, q176_93, q176_101, nb, ce_1, ce_2, ce_3, ce_4, ce_5, ce_6, cm_1, cm_2, cm_3, cm_4, cm_5, cm_6, rc_L, rc_M, zn1_0, if_true, if_false, ↓reduceIte, Option.bind_some, Option.toList_some, Option.toList_none, List.cons_append, List.nil_append, zB_go, zB_end, zB_no, zokv_i, zokv_r, zokv_n, eq_self]
    · refine zOp_p (x := zwsum (h 92) i) R ?_ ?_
      · simp only [e31, q31_0, q31_1, q31_2, q31_3, q31_6, q31_15, q31_16, q31_17, q31_18, q31_19, q31_20, q31_79, q31_80, q31_89, q31_90, q31_97, q31_98, c0, e, p2, n0, ce_1, ce_2, ce_3, ce_4, ce_5, ce_6, cm_1, cm_2, cm_3, cm_4, cm_5, cm_6, rc_L, rc_M, zn1_0, if_true, if_false, ↓reduceIte, Option.bind_some, Option.toList_some, Option.toList_none, List.cons_append, List.nil_append, zB_go, zB_end, zB_no, zokv_i, zokv_r, zokv_n, eq_self]
      · rw [q1]
        simp only [q176_75, q176_76, q176_77, q176_88, q176_89, q176_96, q176_97, q176_98, q176_101, nb, v2, ce_1, ce_2, ce_3, ce_4, ce_5, ce_6, cm_1, cm_2, cm_3, cm_4, cm_5, cm_6, rc_L, rc_M, zn1_0, if_true, if_false, ↓reduceIte, Option.bind_some, Option.toList_some, Option.toList_none, List.cons_append, List.nil_append, zB_go, zB_end, zB_no, zokv_i, zokv_r, zokv_n, eq_self]
end O71
