/-! ===== round ===== -/
def zFirst (s : Nat → Int32) (w i : Nat) : Prop := w < 201 ∧ zAgain s i w ∧ ∀ j, j < w → ∀ i, ¬ zAgain s i j
def zNever (s : Nat → Int32) : Prop := ∀ j, j < 201 → ∀ i, ¬ zAgain s i j
theorem zFirst_1 {s : Nat → Int32} {w i w' i' : Nat} (a : zFirst s w i) (b : zFirst s w' i') : w = w' ∧ i = i' := by
  obtain ⟨a1, a2, a3⟩ := a
  obtain ⟨b1, b2, b3⟩ := b
  have e : w = w' := by
    rcases Nat.lt_trichotomy w w' with q | q | q
    · exact absurd a2 (b3 w q i)
    · exact q
    · exact absurd b2 (a3 w' q i')
  subst e
  refine ⟨rfl, ?_⟩
  obtain ⟨c1, c2, c3⟩ := a2
  obtain ⟨d1, d2, d3⟩ := b2
  rcases Nat.lt_trichotomy i i' with q | q | q
  · exact absurd ⟨q, by omega, fun c hc => (c3 c hc).trans (d3 c hc).symm⟩ (a3 i' d1 i)
  · exact q
  · exact absurd ⟨q, by omega, fun c hc => (d3 c hc).trans (c3 c hc).symm⟩ (a3 i c1 i')
theorem zAgain_s {s : Nat → Int32} {i w : Nat} {f g : Nat → Int32} (hi : i < w) (h4 : (w - i) % 4 = 0) (hf : ∀ c, c < 9 → f c = zrd (zwks i s) c) (hg : ∀ c, c < 9 → g c = zrd (zwks w s) c) : zsame f g 9 0 = true ↔ zAgain s i w := by
  rw [zsame_iff]
  constructor
  · intro h
    exact ⟨hi, h4, fun c hc => by rw [← hf c hc, ← hg c hc]; exact h c (Nat.zero_le _) (by omega)⟩
  · intro h c _ hc
    rw [hf c (by omega), hg c (by omega)]
    exact h.2.2 c (by omega)
section O81
variable (d : Nat) {h : zH}
theorem w33 {N q : Nat} {s : Nat → Int32} {x : Int32} (hq : q < 100) (hx : x = nI 0 ∨ x = nI 1) : ∀ (m w : Nat) (h : zH) (mk : Nat) (a3 : Value), w + 1 + m = 201 → zJ (zwks w s) N mk → (zwks w s) 7 = nI q → zRW 49 (zwks w s) h → (∀ v, v ≤ w → ∀ c, c < 9 → h (108 + v) c = zrd (zwks v s) c) → (∀ j, j ≤ w → ∀ i, ¬ zAgain s i j) → ∃ h', (∀ a, ¬ (49 ≤ a ∧ a < 73) → ¬ (108 ≤ a ∧ a < 309) → h' a = h a) ∧ ((zNever s ∧ zXf zT znl (d + 8) 33 40 [.ref 0, .int x, .int (nI (w + 1)), a3] [] h = some (some (.int (zev 2)), zer 2 h')) ∨ ∃ w' i, zFirst s w' i ∧ zXf zT znl (d + 8) 33 40 [.ref 0, .int x, .int (nI (w + 1)), a3] [] h = some (some (.int (if x = nI 0 then nI i else nI w' - nI i)), h')) := by
  intro m
  induction m with
  | zero =>
    intro w h mk a3 hw z h7 r hs no
    have le : nI 200 < nI (w + 1) := nI_lt (by omega) (by omega)
    refine ⟨h, fun _ _ _ => rfl, Or.inl ⟨fun j hj i => no j (by omega) i, ?_⟩⟩
    rw [q33_40]
    simp only [q33_41, q33_44, q33_98, q33_99, q33_100, q33_103, le, ce_1, ce_2, ce_3, ce_4, ce_5, ce_6, cm_1, cm_2, cm_3, cm_4, cm_5, cm_6, rc_L, rc_M, zn1_0, if_true, if_false, ↓reduceIte, Option.bind_some, Option.toList_some, Option.toList_none, List.cons_append, List.nil_append, zB_go, zB_end, zB_no, zokv_i, zokv_r, zokv_n, eq_self]
  | succ m ih =>
    intro w h mk a3 hw z h7 r hs no
    have le : ¬ nI 200 < nI (w + 1) := nI_nlt (by omega) (by decide)
    obtain ⟨h1, f1, f2, f3⟩ := c70 (d + 1) (w := 49) (M := 1) (h := h) zW_49 (by decide) hq z h7 r
    have f2' : zRW 49 (zwks (w + 1) s) h1 := by rw [zwks_s]; exact f2
    obtain ⟨mk', z'⟩ := zJ_week z
    rw [← zwks_s] at z'
    obtain ⟨h2, g1, g2, g3⟩ := c99 (d + 6) (w := w + 1) (by omega) z' h1 f2'
    obtain ⟨res, p1, p2⟩ := c101 (d + 6) (w := w + 1) (by omega) h2
    have sv : ∀ v, v ≤ w + 1 → ∀ c, c < 9 → h2 (108 + v) c = zrd (zwks v s) c := by
      intro v hv c hc
      by_cases y : v = w + 1
      · subst y; exact g2 c hc
      · rw [g3 _ (by omega), f3 _ (by omega)]; exact hs v (by omega) c hc
    have fr : ∀ a, ¬ (49 ≤ a ∧ a < 73) → ¬ (108 ≤ a ∧ a < 309) → h2 a = h a := fun a q1 q2 => by rw [g3 a (by omega), f3 a q1]
    have sm : ∀ i, i < w + 1 → (w + 1 - i) % 4 = 0 → (zsame (h2 (108 + i)) (h2 (108 + (w + 1))) 9 0 = true ↔ zAgain s i (w + 1)) := fun i hi h4 => zAgain_s hi h4 (sv i (by omega)) (sv (w + 1) (Nat.le_refl _))
    have b1 : zXf zT znl (d + 8) 33 40 [.ref 0, .int x, .int (nI (w + 1)), a3] [] h = zXf zT znl (d + 8) 33 76 [.ref 0, .int x, .int (nI (w + 1)), .int res] [] h2 := by
      rw [q33_40]
      simp only [q33_41, q33_44, q33_47, q33_48, q33_51, q33_52, q33_55, q33_56, q33_59, q33_60, q33_63, q33_64, q33_67, q33_68, q33_71, q33_72, q33_75, gf_L2, gf_L5, le, f1, g1, p1, rc_W zW_49, rc_D, ce_1, ce_2, ce_3, ce_4, ce_5, ce_6, cm_1, cm_2, cm_3, cm_4, cm_5, cm_6, rc_L, rc_M, zn1_0, if_true, if_false, ↓reduceIte, Option.bind_some, Option.toList_some, Option.toList_none, List.cons_append, List.nil_append, zB_go, zB_end, zB_no, zokv_i, zokv_r, zokv_n, eq_self]
    rcases p2 with ⟨rfl, p3⟩ | ⟨i, hi, h4, rfl, p5⟩
    · have n0 : (-1 : Int32) < nI 0 := by decide
      have no' : ∀ j, j ≤ w + 1 → ∀ i, ¬ zAgain s i j := by
        intro j hj i hA
        by_cases y : j = w + 1
        · subst y
          exact p3 i hA.1 hA.2.1 ((sm i hA.1 hA.2.1).mpr hA)
        · exact no j (by omega) i hA
      obtain ⟨h', e1, e2⟩ := ih (w + 1) h2 mk' (.int (-1)) (by omega) z' (by rw [zwks_s]; exact (zweek_lo z (by decide) (by decide) (by decide)).trans h7) (zRW_keep f2' fun a q1 q2 _ _ _ _ => g3 a (by omega)) sv no'
      have b2 : zXf zT znl (d + 8) 33 76 [.ref 0, .int x, .int (nI (w + 1)), .int (-1)] [] h2 = zXf zT znl (d + 8) 33 40 [.ref 0, .int x, .int (nI (w + 1 + 1)), .int (-1)] [] h2 := by
        simp only [q33_76, q33_77, q33_92, q33_95, n0, nI_add, zn1_0, if_true, if_false, ↓reduceIte, Option.bind_some, Option.toList_some, Option.toList_none, List.cons_append, List.nil_append, zB_go, zB_end, zB_no, zokv_i, zokv_r, zokv_n, eq_self]
      rw [b1, b2]
      exact ⟨h', fun a q1 q2 => by rw [e1 a q1 q2, fr a q1 q2], e2⟩
    · have n0 := nI_nlt0 (show i < 1000 by omega)
      refine ⟨h2, fr, Or.inr ⟨w + 1, i, ⟨by omega, (sm i hi h4).mp p5, fun j hj i => no j (by omega) i⟩, ?_⟩⟩
      rw [b1]
      rcases hx with rfl | rfl
      · rw [if_pos rfl]
        simp only [q33_76, q33_77, q33_80, q33_81, q33_84, q33_85, q33_91, n0, zn1_0, if_true, if_false, ↓reduceIte, Option.bind_some, Option.toList_some, Option.toList_none, List.cons_append, List.nil_append, zB_go, zB_end, zB_no, zokv_i, zokv_r, zokv_n, eq_self]
      · rw [if_neg (by decide)]
        simp only [q33_76, q33_77, q33_80, q33_81, q33_88, q33_89, q33_90, q33_91, n0, zn1_0, if_true, if_false, ↓reduceIte, Option.bind_some, Option.toList_some, Option.toList_none, List.cons_append, List.nil_append, zB_go, zB_end, zB_no, zokv_i, zokv_r, zokv_n, eq_self]
theorem w179p {N mk w : Nat} {s : Nat → Int32} {x t : Int32} (hw : w < 201) (z : zJ s N mk) : ∀ (m i : Nat) (g : zH), i + m = 8 → g 92 = s → ∃ g', zXf zT znl (d + 1) 179 60 [.ref 91, .int x, .int t, .int (nI w), .int (nI i)] [] g = zXf zT znl (d + 1) 179 109 [.ref 91, .int x, .int t, .int (nI w), .int (nI 8)] [] g' ∧ (∀ c, g' 100 c = if 9 * w + 1 + i ≤ c ∧ c < 9 * w + 9 then zrd s (c - 9 * w) else g 100 c) ∧ ∀ a, a ≠ 100 → g' a = g a := by
  have hN8 := z.2.1
  intro m
  induction m with
  | zero =>
    intro i g hi e
    have le : nI 8 ≤ nI i := by rw [show i = 8 by omega]; exact Int32.le_refl _
    refine ⟨g, ?_, fun c => by rw [if_neg (by omega)], fun _ _ => rfl⟩
    rw [q179_60]
    simp only [q179_62, q179_64, le, zn1_0, if_true, if_false, ↓reduceIte, Option.bind_some, Option.toList_some, Option.toList_none, List.cons_append, List.nil_append, zB_go, zB_end, zB_no, zokv_i, zokv_r, zokv_n, eq_self]
    rw [show i = 8 by omega]
  | succ m ih =>
    intro i g hi e
    have le : ¬ nI 8 ≤ nI i := nI_ge (by omega) (by decide)
    have i4 := fun d => c112 d g (show i < 8 by omega) (show 4 < 8 by decide)
    have e1 : zrd s (1 + i) = if i < N then s (90 + 8 * i + 4) else nI 0 := by
      unfold zrd
      rw [if_neg (by omega), zn_of z.1 (by omega), show 1 + i - 1 = i by omega]
    obtain ⟨g', p1, p2, p3⟩ := ih (i + 1) (zup g 100 (9 * w + 1 + i) (zrd s (1 + i))) (by omega) (by rw [zup_row_ne (by decide)]; exact e)
    refine ⟨g', ?_, fun c => ?_, fun a ha => by rw [p3 a ha, zup_row_ne ha]⟩
    · rw [← p1, q179_60]
      by_cases q : i < N
      · have le2 : ¬ nI N ≤ nI i := nI_ge q (by omega)
        rw [if_pos q] at e1
        simp only [q179_62, q179_64, q179_67, q179_68, q179_71, q179_73, q179_74, q179_75, q179_76, q179_77, q179_79, q179_80, q179_82, q179_83, q179_86, q179_87, q179_88, q179_91, q179_92, q179_94, q179_95, q179_98, q179_102, q179_103, q179_106, gf_M0, gf_M13, ald_n92 (show 0 < 488 by decide), i4, e, z.1, pk_mul, nI_add, ast_n100 (show 9 * w + 1 + i < 1809 by omega), le, le2, e1, rc_M, zn1_0, if_true, if_false, ↓reduceIte, Option.bind_some, Option.toList_some, Option.toList_none, List.cons_append, List.nil_append, zB_go, zB_end, zB_no, zokv_i, zokv_r, zokv_n, eq_self]
      · have le2 : nI N ≤ nI i := nI_le (by omega) (by omega)
        rw [if_neg q] at e1
        simp only [q179_62, q179_64, q179_67, q179_68, q179_71, q179_73, q179_74, q179_75, q179_76, q179_77, q179_79, q179_80, q179_82, q179_83, q179_86, q179_87, q179_88, q179_101, q179_102, q179_103, q179_106, gf_M0, gf_M13, ald_n92 (show 0 < 488 by decide), e, z.1, pk_mul, nI_add, ast_n100 (show 9 * w + 1 + i < 1809 by omega), le, le2, e1, rc_M, zn1_0, if_true, if_false, ↓reduceIte, Option.bind_some, Option.toList_some, Option.toList_none, List.cons_append, List.nil_append, zB_go, zB_end, zB_no, zokv_i, zokv_r, zokv_n, eq_self]
    · rw [p2 c]
      by_cases y : c = 9 * w + 1 + i
      · subst y
        rw [if_neg (by omega), if_pos (by omega), zup_at]
        congr 1
        omega
      · rw [zup_o y]
        by_cases v : 9 * w + 1 + (i + 1) ≤ c ∧ c < 9 * w + 9
        · rw [if_pos v, if_pos (by omega)]
        · rw [if_neg v, if_neg (by omega)]
theorem w178 {i j : Nat} (hi : i < 201) (hj : j < 201) {g : zH} : ∀ (m c : Nat), c + m = 9 → zXf zT znl d 178 17 [.ref 91, .int (nI i), .int (nI j), .int (nI 1), .int (nI c)] [] g = some (some (.int (if zsame (fun c => g 100 (9 * i + c)) (fun c => g 100 (9 * j + c)) m c = true then nI 1 else nI 0)), g) := by
  intro m
  induction m with
  | zero =>
    intro c hc
    have le : nI 9 ≤ nI c := by rw [show c = 9 by omega]; exact Int32.le_refl _
    rw [q178_17]
    simp only [q178_19, q178_21, q178_67, q178_68, le, z01_1, zsame, zn1_0, if_true, if_false, ↓reduceIte, Option.bind_some, Option.toList_some, Option.toList_none, List.cons_append, List.nil_append, zB_go, zB_end, zB_no, zokv_i, zokv_r, zokv_n, eq_self]
  | succ m ih =>
    intro c hc
    have le : ¬ nI 9 ≤ nI c := nI_ge (by omega) (by decide)
    unfold zsame
    by_cases e : g 100 (9 * i + c) = g 100 (9 * j + c)
    · rw [if_pos e, ← ih (c + 1) (by omega), q178_17]
      simp only [q178_19, q178_21, q178_24, q178_25, q178_28, q178_29, q178_32, q178_34, q178_35, q178_36, q178_38, q178_39, q178_40, q178_41, q178_44, q178_46, q178_47, q178_48, q178_50, q178_51, q178_52, q178_55, q178_56, q178_60, q178_61, q178_64, gf_M13, pk_mul, nI_add, ald_n100 (show 9 * i + c < 1809 by omega), ald_n100 (show 9 * j + c < 1809 by omega), le, e, zn1_0, if_true, if_false, ↓reduceIte, Option.bind_some, Option.toList_some, Option.toList_none, List.cons_append, List.nil_append, zB_go, zB_end, zB_no, zokv_i, zokv_r, zokv_n, eq_self]
    · rw [if_neg e, q178_17]
      simp only [q178_19, q178_21, q178_24, q178_25, q178_28, q178_29, q178_32, q178_34, q178_35, q178_36, q178_38, q178_39, q178_40, q178_41, q178_44, q178_46, q178_47, q178_48, q178_50, q178_51, q178_52, q178_59, q178_60, q178_61, q178_64, gf_M13, pk_mul, nI_add, ald_n100 (show 9 * i + c < 1809 by omega), ald_n100 (show 9 * j + c < 1809 by omega), le, e, Bool.false_eq_true, zn1_0, if_true, if_false, ↓reduceIte, Option.bind_some, Option.toList_some, Option.toList_none, List.cons_append, List.nil_append, zB_go, zB_end, zB_no, zokv_i, zokv_r, zokv_n, eq_self]
      rw [q178_17]
      by_cases le2 : nI 9 ≤ nI (c + 1)
      · simp only [q178_19, q178_21, q178_67, q178_68, le2, z01_0, zn1_0, if_true, if_false, ↓reduceIte, Option.bind_some, Option.toList_some, Option.toList_none, List.cons_append, List.nil_append, zB_go, zB_end, zB_no, zokv_i, zokv_r, zokv_n, eq_self]
      · simp only [q178_19, q178_21, q178_24, q178_25, q178_67, q178_68, le2, z01_0, zn1_0, if_true, if_false, ↓reduceIte, Option.bind_some, Option.toList_some, Option.toList_none, List.cons_append, List.nil_append, zB_go, zB_end, zB_no, zokv_i, zokv_r, zokv_n, eq_self]
theorem c178 {i j : Nat} (hij : i < j) (hj : j < 201) (g : zH) : zCf zT znl (d + 1) 178 [.ref 91, .int (nI i), .int (nI j)] g = some (some (.int (if (j - i) % 4 = 0 ∧ zsame (fun c => g 100 (9 * i + c)) (fun c => g 100 (9 * j + c)) 9 0 = true then nI 1 else nI 0)), g) := by
  have sb := pk_sub (show i ≤ j by omega)
  have rm := zrem4 (j - i) (by omega)
  have r0 := zrem4_0 (j - i) (by omega)
  by_cases q : (j - i) % 4 = 0
  · have w := w178 d (show i < 201 by omega) hj (g := g) 9 0 (by omega)
    have r1 := r0.mpr q
    by_cases y : zsame (fun c => g 100 (9 * i + c)) (fun c => g 100 (9 * j + c)) 9 0 = true
    · rw [y, if_pos rfl] at w
      rw [if_pos ⟨q, y⟩]
      simp only [e178, q178_0, q178_1, q178_2, q178_3, q178_4, q178_5, q178_8, q178_9, q178_13, q178_14, q178_15, sb, rm, r1, zn4, not_false_eq_true, w, zn1_0, if_true, if_false, ↓reduceIte, Option.bind_some, Option.toList_some, Option.toList_none, List.cons_append, List.nil_append, zB_go, zB_end, zB_no, zokv_i, zokv_r, zokv_n, eq_self]
    · rw [if_neg y] at w
      rw [if_neg (fun x => y x.2)]
      simp only [e178, q178_0, q178_1, q178_2, q178_3, q178_4, q178_5, q178_8, q178_9, q178_13, q178_14, q178_15, sb, rm, r1, zn4, not_false_eq_true, w, zn1_0, if_true, if_false, ↓reduceIte, Option.bind_some, Option.toList_some, Option.toList_none, List.cons_append, List.nil_append, zB_go, zB_end, zB_no, zokv_i, zokv_r, zokv_n, eq_self]
  · have r1 : ¬ nI ((j - i) % 4) = nI 0 := fun x => q (r0.mp x)
    have le : ¬ nI 9 ≤ nI 0 := by decide
    rw [if_neg (fun x => q x.1)]
    simp only [e178, q178_0, q178_1, q178_2, q178_3, q178_4, q178_5, q178_12, q178_13, q178_14, q178_15, sb, rm, r1, zn4, not_false_eq_true, zn1_0, if_true, if_false, ↓reduceIte, Option.bind_some, Option.toList_some, Option.toList_none, List.cons_append, List.nil_append, zB_go, zB_end, zB_no, zokv_i, zokv_r, zokv_n, eq_self]
    rw [q178_17]
    simp only [q178_19, q178_21, q178_24, q178_25, q178_67, q178_68, le, z01_0, zn1_0, if_true, if_false, ↓reduceIte, Option.bind_some, Option.toList_some, Option.toList_none, List.cons_append, List.nil_append, zB_go, zB_end, zB_no, zokv_i, zokv_r, zokv_n, eq_self]
theorem w179i {w : Nat} {x : Int32} (hw : w < 201) {g : zH} : ∀ (m i : Nat), i + m = w → ∃ t i', zXf zT znl (d + 1) 179 112 [.ref 91, .int x, .int (-1), .int (nI w), .int (nI i)] [] g = zXf zT znl (d + 1) 179 146 [.ref 91, .int x, .int t, .int (nI w), .int (nI i')] [] g ∧ ((t = -1 ∧ ∀ j, i ≤ j → j < w → ¬ ((w - j) % 4 = 0 ∧ zsame (fun c => g 100 (9 * j + c)) (fun c => g 100 (9 * w + c)) 9 0 = true)) ∨ ∃ j, j < w ∧ t = nI j ∧ (w - j) % 4 = 0 ∧ zsame (fun c => g 100 (9 * j + c)) (fun c => g 100 (9 * w + c)) 9 0 = true) := by
  intro m
  induction m with
  | zero =>
    intro i hi
    have le : nI w ≤ nI i := by rw [show i = w by omega]; exact Int32.le_refl _
    refine ⟨-1, i, ?_, Or.inl ⟨rfl, fun j h1 h2 => absurd h1 (by omega)⟩⟩
    rw [q179_112]
    simp only [q179_114, q179_115, le, zn1_0, if_true, if_false, ↓reduceIte, Option.bind_some, Option.toList_some, Option.toList_none, List.cons_append, List.nil_append, zB_go, zB_end, zB_no, zokv_i, zokv_r, zokv_n, eq_self]
  | succ m ih =>
    intro i hi
    have le : ¬ nI w ≤ nI i := nI_ge (by omega) (by omega)
    have cc := fun d => c178 d (show i < w by omega) hw g
    by_cases e : (w - i) % 4 = 0 ∧ zsame (fun c => g 100 (9 * i + c)) (fun c => g 100 (9 * w + c)) 9 0 = true
    · simp only [if_pos e] at cc
      have n1 := zni_m1 (show i < 1000 by omega)
      refine ⟨nI i, i + 1, ?_, Or.inr ⟨i, by omega, rfl, e.1, e.2⟩⟩
      rw [q179_112]
      simp only [q179_114, q179_115, q179_118, q179_119, q179_120, q179_123, q179_124, q179_126, q179_127, q179_130, q179_133, q179_135, q179_139, q179_140, q179_143, le, cc, rc_M, nI_add, zn1_0, if_true, if_false, ↓reduceIte, Option.bind_some, Option.toList_some, Option.toList_none, List.cons_append, List.nil_append, zB_go, zB_end, zB_no, zokv_i, zokv_r, zokv_n, eq_self]
      rw [q179_112]
      by_cases le2 : nI w ≤ nI (i + 1)
      · simp only [q179_114, q179_115, le2, zn1_0, if_true, if_false, ↓reduceIte, Option.bind_some, Option.toList_some, Option.toList_none, List.cons_append, List.nil_append, zB_go, zB_end, zB_no, zokv_i, zokv_r, zokv_n, eq_self]
      · simp only [q179_114, q179_115, q179_118, q179_119, q179_120, le2, n1, zn1_0, if_true, if_false, ↓reduceIte, Option.bind_some, Option.toList_some, Option.toList_none, List.cons_append, List.nil_append, zB_go, zB_end, zB_no, zokv_i, zokv_r, zokv_n, eq_self]
    · simp only [if_neg e] at cc
      obtain ⟨t, i', p1, p2⟩ := ih (i + 1) (by omega)
      refine ⟨t, i', ?_, ?_⟩
      · rw [← p1, q179_112]
        simp only [q179_114, q179_115, q179_118, q179_119, q179_120, q179_123, q179_124, q179_126, q179_127, q179_130, q179_138, q179_139, q179_140, q179_143, le, cc, rc_M, nI_add, zn1_0, if_true, if_false, ↓reduceIte, Option.bind_some, Option.toList_some, Option.toList_none, List.cons_append, List.nil_append, zB_go, zB_end, zB_no, zokv_i, zokv_r, zokv_n, eq_self]
      · rcases p2 with ⟨p2, p3⟩ | p2
        · refine Or.inl ⟨p2, fun j h1 h2 => ?_⟩
          by_cases y : j = i
          · subst y; exact e
          · exact p3 j (by omega) h2
        · exact Or.inr p2
end O81
