/-! ===== least ===== -/
/-- the least voice with which it comes -/
def zlv (i : Nat) (c : Int32) (M : Nat) : Nat → Nat → (Nat → Int32) → Option Nat
  | 0, _, _ => none
  | m + 1, v, s => if zcs c M 0 (zud s i (nI v)) = none then zlv i c M m (v + 1) s else some v
theorem zlv_lt {i M : Nat} {c : Int32} {s : Nat → Int32} : ∀ (m v j : Nat), zlv i c M m v s = some j → j < v + m
  | 0, v, j, e => by cases e
  | m + 1, v, j, e => by
    unfold zlv at e
    split at e
    · have := zlv_lt m (v + 1) j e
      omega
    · injection e with e
      omega
/-- what weeks don't change -/
def zAg (s s' : Nat → Int32) : Prop := ∀ i, 2 < i → i ≠ 5 → (i < 90 ∨ 154 ≤ i) → s' i = s i
theorem zAg_wks {s : Nat → Int32} {N mk : Nat} (n : Nat) (z : zJ s N mk) : zAg s (zwks n s) := fun i h2 h5 h => by
  rcases h with h | h
  · exact zwks_lo n z h (by omega) (by omega)
  · exact zwks_hi n z h
theorem zAg_trans {a b c : Nat → Int32} (x : zAg a b) (y : zAg b c) : zAg a c := fun i h1 h2 h3 => (y i h1 h2 h3).trans (x i h1 h2 h3)
theorem zAg_ud {s : Nat → Int32} {k j : Nat} {x : Int32} (hk : k < 8) (hj : j < 8) : zAg s (zud s (90 + 8 * k + j) x) := fun i h1 h2 h3 => zud_ne (by omega)
section O68
variable (d : Nat) {h : zH}
theorem c49r {a b : Nat} {s s' : Nat → Int32} {h : zH} (ha : zW a) (hb : zW b) (hab : a + 24 ≤ b ∨ b + 24 ≤ a) (r' : zRW a s' h) (rb : zRW b s h) (t0 : zTI zok0 s 0) (t1 : zTI zok1 s 1) (ag : zAg s s') : ∃ h', zCf zT znl (d + 1) 49 [.ref a, .ref b] h = some (none, h') ∧ zRW a s h' ∧ ∀ x, ¬ (a ≤ x ∧ x < a + 24) → h' x = h x := by
  obtain ⟨h', f, ⟨m9, m10, m11, m12⟩, mo, rows, fr⟩ := c49 d (h := h) ha hb hab
  obtain ⟨-, -, b3, ⟨p1, p2, p3, p4, p5, p6⟩, -⟩ := rb
  obtain ⟨a1, a2, a3, ⟨q1, q2, q3, q4, q5, q6⟩, a5, a6, a7, a8⟩ := r'
  refine ⟨h', f, ⟨fun c hc => ?_, fun j hj => ?_, fun k hk j hj => ?_, ⟨?_, ?_, ?_, ?_, ?_, ?_⟩, fun i hi => ?_, fun i hi => ?_, ?_, ?_⟩, fun x hx => fr x (by omega) (by omega)⟩
  · rw [fr _ (by omega) (by omega), a1 c hc]; exact ag _ (by omega) (by omega) (by omega)
  · rw [fr _ (by omega) (by omega), a2 j hj]; exact ag _ (by omega) (by omega) (by omega)
  · rw [rows k hk j hj]; exact b3 k hk j hj
  · rw [m9]; exact p1
  · rw [m10]; exact p2
  · rw [m11]; exact p3
  · rw [m12]; exact p4
  · rw [mo 13 (by decide) (by decide) (by decide) (by decide), q5]; exact ag _ (by omega) (by omega) (by omega)
  · rw [mo 14 (by decide) (by decide) (by decide) (by decide), q6]; exact ag _ (by omega) (by omega) (by omega)
  · rw [fr _ (by omega) (by omega), a5 i hi]; exact ag _ (by omega) (by omega) (by omega)
  · rw [fr _ (by omega) (by omega), a6 i hi]; exact ag _ (by omega) (by omega) (by omega)
  · rw [(zTI_al (fun i h1 h2 => ag i (by omega) (by omega) (by omega)) (by decide) t0).1] at a7
    exact zRT_row (fr _ (by omega) (by omega)) (fr _ (by omega) (by omega)) (fr _ (by omega) (by omega)) a7
  · rw [(zTI_al (fun i h1 h2 => ag i (by omega) (by omega) (by omega)) (by decide) t1).1] at a8
    exact zRT_row (fr _ (by omega) (by omega)) (fr _ (by omega) (by omega)) (fr _ (by omega) (by omega)) a8
theorem w29i {M N q p v : Nat} {c : Int32} (hM : M < 2 ^ 31) (hq : q < 100) : ∀ (n k j : Nat) (s : Nat → Int32) (h : zH) (mk : Nat), k + n = M → zJ s N mk → s 7 = nI q → zRW 49 s h → ∃ h' k' t, zXf zT znl (d + 8) 29 84 [.ref 0, .int (nI p), .int (nI M), .int c, .int (nI v), .int (nI k)] [] h = zXf zT znl (d + 8) 29 115 [.ref 0, .int (nI p), .int (nI M), .int c, .int (nI v), .int (nI k')] [] h' ∧ zRW 49 (zwks t s) h' ∧ (zwks t s 1 = c ↔ ¬ zcs c n j s = none) ∧ ∀ x, ¬ (49 ≤ x ∧ x < 73) → h' x = h x := by
  intro n
  induction n with
  | zero =>
    intro k j s h mk hk z h7 r
    have a : nI M ≤ nI k := by rw [show k = M by omega]; exact Int32.le_refl _
    refine ⟨h, k, 0, ?_, r, ?_, fun _ _ => rfl⟩
    · rw [q29_84]
      simp only [q29_86, q29_87, a, ce_1, ce_2, ce_3, ce_4, ce_5, ce_6, cm_1, cm_2, cm_3, cm_4, cm_5, cm_6, rc_L, rc_M, zn1_0, if_true, if_false, ↓reduceIte, Option.bind_some, Option.toList_some, Option.toList_none, List.cons_append, List.nil_append, zB_go, zB_end, zB_no, zokv_i, zokv_r, zokv_n, eq_self]
    · show s 1 = c ↔ _
      unfold zcs
      by_cases e : s 1 = c
      · rw [if_pos e]; exact ⟨fun _ y => (by cases y), fun _ => e⟩
      · rw [if_neg e]; exact ⟨fun y => absurd y e, fun y => absurd rfl y⟩
  | succ n ih =>
    intro k j s h mk hk z h7 r
    have a : ¬ nI M ≤ nI k := nI_ge (by omega) hM
    have r9 := r.2.2.2.1.1
    unfold zcs
    by_cases e : s 1 = c
    · refine ⟨h, k, 0, ?_, r, ?_, fun _ _ => rfl⟩
      · rw [q29_84]
        simp only [q29_86, q29_87, q29_90, q29_91, q29_94, q29_97, q29_98, gf_L0, gf_L2, gf_W9 zW_49, a, r9, e, ce_1, ce_2, ce_3, ce_4, ce_5, ce_6, cm_1, cm_2, cm_3, cm_4, cm_5, cm_6, rc_L, rc_M, zn1_0, if_true, if_false, ↓reduceIte, Option.bind_some, Option.toList_some, Option.toList_none, List.cons_append, List.nil_append, zB_go, zB_end, zB_no, zokv_i, zokv_r, zokv_n, eq_self]
      · show s 1 = c ↔ _
        rw [if_pos e]; exact ⟨fun _ y => (by cases y), fun _ => e⟩
    · rw [if_neg e]
      obtain ⟨h1, f1, f2, f3⟩ := c70 (d + 1) (w := 49) (M := 1) (h := h) zW_49 (by decide) hq z h7 r
      obtain ⟨m, z'⟩ := zJ_week z
      obtain ⟨h', k', t, g1, g2, g3, g4⟩ := ih (k + 1) (j + 1) (zweek s) h1 m (by omega) z' ((zweek_lo z (by decide) (by decide) (by decide)).trans h7) f2
      refine ⟨h', k', t + 1, ?_, g2, g3, fun x hx => by rw [g4 x hx, f3 x hx]⟩
      rw [← g1, q29_84]
      simp only [q29_86, q29_87, q29_90, q29_91, q29_94, q29_97, q29_98, q29_101, q29_102, q29_105, q29_106, q29_109, q29_112, gf_L0, gf_L2, gf_W9 zW_49, a, r9, e, f1, rc_W zW_49, nI_add, ce_1, ce_2, ce_3, ce_4, ce_5, ce_6, cm_1, cm_2, cm_3, cm_4, cm_5, cm_6, rc_L, rc_M, zn1_0, if_true, if_false, ↓reduceIte, Option.bind_some, Option.toList_some, Option.toList_none, List.cons_append, List.nil_append, zB_go, zB_end, zB_no, zokv_i, zokv_r, zokv_n, eq_self]
theorem w29 {M N mk q p : Nat} {c : Int32} {s : Nat → Int32} (hM : M < 2 ^ 31) (hq : q < 100) (hp : p < 8) (z : zI s N mk) (h7 : s 7 = nI q) : ∀ (m v : Nat) (s' : Nat → Int32) (h : zH) (a5 : Value), zokv a5 = true → v + m = 100 → zRW 1 s h → zRW 49 s' h → zAg s s' → ∃ h', zXf zT znl (d + 8) 29 50 [.ref 0, .int (nI p), .int (nI M), .int c, .int (nI v), a5] [] h = some (zcr (zlv (90 + 8 * p + 3) c M m v s) h') ∧ ∀ x, ¬ (49 ≤ x ∧ x < 73) → h' x = h x := by
  intro m
  induction m with
  | zero =>
    intro v s' h a5 h5 hv r r' ag
    have a : nI 99 < nI v := by rw [show v = 100 by omega]; decide
    refine ⟨h, ?_, fun _ _ => rfl⟩
    rw [q29_50]
    simp only [q29_52, q29_54, q29_135, q29_136, q29_137, q29_140, a, ce_1, ce_2, ce_3, ce_4, ce_5, ce_6, cm_1, cm_2, cm_3, cm_4, cm_5, cm_6, rc_L, rc_M, zn1_0, if_true, if_false, ↓reduceIte, Option.bind_some, Option.toList_some, Option.toList_none, List.cons_append, List.nil_append, zB_go, zB_end, zB_no, zokv_i, zokv_r, zokv_n, eq_self]
    rfl
  | succ m ih =>
    intro v s' h a5 h5 hv r r' ag
    have a : ¬ nI 99 < nI v := nI_nlt (by omega) (by decide)
    obtain ⟨h1, f1, f2, f3⟩ := c49r (d + 7) (a := 49) (b := 1) zW_49 zW_1 (by decide) r' r z.1.2.2.2.2.2.1 z.1.2.2.2.2.2.2 ag
    have r2 := zRW_pl (w := 49) (k := p) (j := 3) (x := nI v) hp (by decide) f2
    have zj := zJ_udp (k := p) (j := 3) (x := nI v) hp (by decide) (zpok1 (by decide) (by omega)) z.1
    obtain ⟨h2, k', t, g1, g2, g3, g4⟩ := w29i d (p := p) (v := v) (c := c) hM hq M 0 0 (zud s (90 + 8 * p + 3) (nI v)) (zup h1 (49 + 4 + p) 3 (nI v)) mk (by omega) zj (by rw [zud_ne (by omega)]; exact h7) r2
    have f5 : ∀ x, ¬ (49 ≤ x ∧ x < 73) → h2 x = h x := fun x hx => by rw [g4 x hx, zup_row_ne (by omega), f3 x (by omega)]
    have r9 := g2.2.2.2.1.1
    have b1 : zXf zT znl (d + 8) 29 50 [.ref 0, .int (nI p), .int (nI M), .int c, .int (nI v), a5] [] h = zXf zT znl (d + 8) 29 115 [.ref 0, .int (nI p), .int (nI M), .int c, .int (nI v), .int (nI k')] [] h2 := by
      rw [← g1, q29_50]
      simp only [q29_52, q29_54, q29_57, q29_58, q29_61, q29_62, q29_65, q29_68, q29_69, q29_72, q29_75, q29_76, q29_77, q29_78, q29_80, q29_81, q29_82, a, h5, gf_L0, gf_L2, f1, rc_W zW_49, gf_W2 zW_49, aal_W zW_49 hp, ast_row zW_49 hp (show 3 < 8 by decide), ce_1, ce_2, ce_3, ce_4, ce_5, ce_6, cm_1, cm_2, cm_3, cm_4, cm_5, cm_6, rc_L, rc_M, zn1_0, if_true, if_false, ↓reduceIte, Option.bind_some, Option.toList_some, Option.toList_none, List.cons_append, List.nil_append, zB_go, zB_end, zB_no, zokv_i, zokv_r, zokv_n, eq_self]
    rw [b1]
    unfold zlv
    by_cases y : zcs c M 0 (zud s (90 + 8 * p + 3) (nI v)) = none
    · rw [if_pos y]
      have e : ¬ zwks t (zud s (90 + 8 * p + 3) (nI v)) 1 = c := fun w => g3.mp w y
      obtain ⟨h', p1, p2⟩ := ih (v + 1) (zwks t (zud s (90 + 8 * p + 3) (nI v))) h2 (.int (nI k')) rfl (by omega) (zRW_keep r fun x p1 p2 _ _ _ _ => f5 x (by omega)) g2 (zAg_trans (zAg_ud hp (by decide)) (zAg_wks t zj))
      refine ⟨h', ?_, fun x hx => by rw [p2 x hx, f5 x hx]⟩
      rw [← p1]
      simp only [q29_115, q29_116, q29_119, q29_122, q29_123, q29_129, q29_132, gf_L0, gf_L2, gf_W9 zW_49, r9, e, nI_add, ce_1, ce_2, ce_3, ce_4, ce_5, ce_6, cm_1, cm_2, cm_3, cm_4, cm_5, cm_6, rc_L, rc_M, zn1_0, if_true, if_false, ↓reduceIte, Option.bind_some, Option.toList_some, Option.toList_none, List.cons_append, List.nil_append, zB_go, zB_end, zB_no, zokv_i, zokv_r, zokv_n, eq_self]
    · rw [if_neg y]
      refine ⟨h2, ?_, f5⟩
      have e := g3.mpr y
      simp only [q29_115, q29_116, q29_119, q29_122, q29_123, q29_126, q29_128, gf_L0, gf_L2, gf_W9 zW_49, r9, e, ce_1, ce_2, ce_3, ce_4, ce_5, ce_6, cm_1, cm_2, cm_3, cm_4, cm_5, cm_6, rc_L, rc_M, zn1_0, if_true, if_false, ↓reduceIte, Option.bind_some, Option.toList_some, Option.toList_none, List.cons_append, List.nil_append, zB_go, zB_end, zB_no, zokv_i, zokv_r, zokv_n, eq_self]
      rfl
theorem w172 {M N mk p : Nat} {s : Nat → Int32} {was : Int32} (hM : M < 100) (hp : p < 8) (z : zI s N mk) : ∀ (m v : Nat) (g : zH) (x : Int32), v + m = 100 → g 92 = zud s (90 + 8 * p + 3) x → ∃ g' v' x', zXf zT znl (d + 11) 172 45 [.ref 91, .int (nI p), .int (nI M), .int (nI (90 + 8 * p + 3)), .int was, .int (-1), .int (nI v)] [] g = zXf zT znl (d + 11) 172 95 [.ref 91, .int (nI p), .int (nI M), .int (nI (90 + 8 * p + 3)), .int was, .int (zco (zlv (90 + 8 * p + 3) (s (90 + 8 * p + 2)) M m v s)), .int (nI v')] [] g' ∧ g' 92 = zud s (90 + 8 * p + 3) x' ∧ ∀ a, a ≠ 92 → a ≠ 94 → a ≠ 97 → a ≠ 98 → a ≠ 99 → g' a = g a := by
  intro m
  induction m with
  | zero =>
    intro v g x hv e
    have a : nI 99 < nI v := by rw [show v = 100 by omega]; decide
    refine ⟨g, v, x, ?_, e, fun _ _ _ _ _ _ => rfl⟩
    rw [q172_45]
    simp only [q172_47, q172_49, a, ce_1, ce_2, ce_3, ce_4, ce_5, ce_6, cm_1, cm_2, cm_3, cm_4, cm_5, cm_6, rc_L, rc_M, zn1_0, if_true, if_false, ↓reduceIte, Option.bind_some, Option.toList_some, Option.toList_none, List.cons_append, List.nil_append, zB_go, zB_end, zB_no, zokv_i, zokv_r, zokv_n, eq_self]
    rfl
  | succ m ih =>
    intro v g x hv e
    have a : ¬ nI 99 < nI v := nI_nlt (by omega) (by decide)
    obtain ⟨g1, eg⟩ : ∃ g1, zup g 92 (90 + 8 * p + 3) (nI v) = g1 := ⟨_, rfl⟩
    have k1 : g1 92 = zud s (90 + 8 * p + 3) (nI v) := by rw [← eg, zup_ud, e, zud_zud]
    have z1 : zI (g1 92) N mk := by
      rw [k1]
      exact zI_w (zJ_udp hp (by decide) (zpok1 (by decide) (by omega)) z.1) z (fun y => absurd y (by omega)) (fun y => absurd y (by omega)) (fun y => absurd y (by omega)) (fun y => absurd y (by omega))
    obtain ⟨g2, b1, b2, b3⟩ := c170 (d + 1) (n := M) (c := s (90 + 8 * p + 2)) g1 hM z1
    have i2 := fun d g => c112 d g hp (show 2 < 8 by decide)
    have h2 : g1 92 (90 + 8 * p + 2) = s (90 + 8 * p + 2) := by rw [k1, zud_ne (by omega)]
    rw [k1] at b1 b2
    have f2 : ∀ a, a ≠ 92 → a ≠ 94 → a ≠ 97 → a ≠ 98 → a ≠ 99 → g2 a = g a := fun a i1 i2 i3 i4 i5 => by rw [b3 a i1 i2 i3 i4 i5, ← eg, zup_row_ne i1]
    unfold zlv
    by_cases y : zcs (s (90 + 8 * p + 2)) M 0 (zud s (90 + 8 * p + 3) (nI v)) = none
    · rw [if_pos y]
      rw [y] at b1
      obtain ⟨g', v', x', p1, p2, p3⟩ := ih (v + 1) g2 (nI v) (by omega) b2
      refine ⟨g', v', x', ?_, p2, fun a i1 i2 i3 i4 i5 => by rw [p3 a i1 i2 i3 i4 i5, f2 a i1 i2 i3 i4 i5]⟩
      rw [← p1, q172_45]
      simp only [q172_47, q172_49, q172_52, q172_54, q172_55, q172_58, q172_59, q172_62, q172_63, q172_65, q172_66, q172_67, q172_68, q172_69, q172_70, q172_73, q172_74, q172_77, q172_78, q172_81, q172_82, q172_87, q172_89, q172_92, a, gf_M0, ast_n92 (show 90 + 8 * p + 3 < 488 by omega), eg, i2, h2, b1, show zco none = -1 from rfl, nI_add, ce_1, ce_2, ce_3, ce_4, ce_5, ce_6, cm_1, cm_2, cm_3, cm_4, cm_5, cm_6, rc_L, rc_M, zn1_0, if_true, if_false, ↓reduceIte, Option.bind_some, Option.toList_some, Option.toList_none, List.cons_append, List.nil_append, zB_go, zB_end, zB_no, zokv_i, zokv_r, zokv_n, eq_self]
    · rw [if_neg y]
      cases w : zcs (s (90 + 8 * p + 2)) M 0 (zud s (90 + 8 * p + 3) (nI v)) with
      | none => exact absurd w y
      | some j =>
        rw [w] at b1
        have hj := zcs_le M 0 _ j w
        have nj := zni_m1 (n := j) (by omega)
        have nv := zni_m1 (n := v) (by omega)
        refine ⟨g2, v + 1, nI v, ?_, b2, f2⟩
        rw [q172_45]
        simp only [q172_47, q172_49, q172_52, q172_54, q172_55, q172_58, q172_59, q172_62, q172_63, q172_65, q172_66, q172_67, q172_68, q172_69, q172_70, q172_73, q172_74, q172_77, q172_78, q172_85, q172_87, q172_89, q172_92, a, gf_M0, ast_n92 (show 90 + 8 * p + 3 < 488 by omega), eg, i2, h2, b1, show zco (some j) = nI j from rfl, nj, nI_add, ce_1, ce_2, ce_3, ce_4, ce_5, ce_6, cm_1, cm_2, cm_3, cm_4, cm_5, cm_6, rc_L, rc_M, zn1_0, if_true, if_false, ↓reduceIte, Option.bind_some, Option.toList_some, Option.toList_none, List.cons_append, List.nil_append, zB_go, zB_end, zB_no, zokv_i, zokv_r, zokv_n, eq_self]
        rw [q172_45]
        have sv : zco (some v) = nI v := rfl
        by_cases a2 : nI 99 < nI (v + 1)
        · simp only [q172_47, q172_49, a2, sv, ce_1, ce_2, ce_3, ce_4, ce_5, ce_6, cm_1, cm_2, cm_3, cm_4, cm_5, cm_6, rc_L, rc_M, zn1_0, if_true, if_false, ↓reduceIte, Option.bind_some, Option.toList_some, Option.toList_none, List.cons_append, List.nil_append, zB_go, zB_end, zB_no, zokv_i, zokv_r, zokv_n, eq_self]
        · simp only [q172_47, q172_49, q172_52, q172_54, q172_55, a2, nv, sv, ce_1, ce_2, ce_3, ce_4, ce_5, ce_6, cm_1, cm_2, cm_3, cm_4, cm_5, cm_6, rc_L, rc_M, zn1_0, if_true, if_false, ↓reduceIte, Option.bind_some, Option.toList_some, Option.toList_none, List.cons_append, List.nil_append, zB_go, zB_end, zB_no, zokv_i, zokv_r, zokv_n, eq_self]
theorem o29 (R : Rel h) (x y : Int32) : zOp (d + 60) 29 172 [.int x, .int y] h := by
  obtain ⟨⟨N, mk, z⟩, r, -⟩ := id R
  obtain ⟨a1, a2, a3, ⟨b1, b2, b3, b4, b5, b6⟩, a5, a6, a7, a8⟩ := id r
  have m0 := z.1.1
  have hN8 := z.1.2.1
  have h12 : h 1 12 = nI N := b4.trans m0
  rcases zpl_c x hN8 with ⟨e, e'⟩ | ⟨p, hp, rfl, e, e'⟩
  · exact zOp_k 1 R (by simp only [e29, q29_0, q29_1, q29_2, q29_5, q29_8, q29_18, q29_19, q29_20, q29_23, c12', h12, e, ce_1, ce_2, ce_3, ce_4, ce_5, ce_6, cm_1, cm_2, cm_3, cm_4, cm_5, cm_6, rc_L, rc_M, zn1_0, if_true, if_false, ↓reduceIte, Option.bind_some, Option.toList_some, Option.toList_none, List.cons_append, List.nil_append, zB_go, zB_end, zB_no, zokv_i, zokv_r, zokv_n, eq_self]) fun g hg => by simp only [e172, q172_0, q172_1, q172_2, q172_5, q172_15, q172_16, q172_17, q172_20, c111, hg 92 (by decide), m0, e', ce_1, ce_2, ce_3, ce_4, ce_5, ce_6, cm_1, cm_2, cm_3, cm_4, cm_5, cm_6, rc_L, rc_M, zn1_0, if_true, if_false, ↓reduceIte, Option.bind_some, Option.toList_some, Option.toList_none, List.cons_append, List.nil_append, zB_go, zB_end, zB_no, zokv_i, zokv_r, zokv_n, eq_self]
  rcases zwi_c y 60 (by decide) with f | ⟨n, hn, rfl, f⟩
  · exact zOp_k 1 R (by simp only [e29, q29_0, q29_1, q29_2, q29_5, q29_8, q29_9, q29_10, q29_12, q29_15, q29_18, q29_19, q29_20, q29_23, c12', c0, h12, e, f, ce_1, ce_2, ce_3, ce_4, ce_5, ce_6, cm_1, cm_2, cm_3, cm_4, cm_5, cm_6, rc_L, rc_M, zn1_0, if_true, if_false, ↓reduceIte, Option.bind_some, Option.toList_some, Option.toList_none, List.cons_append, List.nil_append, zB_go, zB_end, zB_no, zokv_i, zokv_r, zokv_n, eq_self]) fun g hg => by simp only [e172, q172_0, q172_1, q172_2, q172_5, q172_8, q172_9, q172_12, q172_15, q172_16, q172_17, q172_20, c111, c165, hg 92 (by decide), m0, e', f, ce_1, ce_2, ce_3, ce_4, ce_5, ce_6, cm_1, cm_2, cm_3, cm_4, cm_5, cm_6, rc_L, rc_M, zn1_0, if_true, if_false, ↓reduceIte, Option.bind_some, Option.toList_some, Option.toList_none, List.cons_append, List.nil_append, zB_go, zB_end, zB_no, zokv_i, zokv_r, zokv_n, eq_self]
  have p8 : p < 8 := by omega
  obtain ⟨q7, hq, h7⟩ := z.2.1
  obtain ⟨h1, u1, u2, u3⟩ := c50n (d + 57) R
  have hm2 := a3 p p8 2 (by decide)
  obtain ⟨h2, v1, v2⟩ := w29 (d + 51) (M := n) (c := h 92 (90 + 8 * p + 2)) (by omega) hq p8 z h7 100 0 (h 92) h1 Value.null rfl (by omega) (zRW_keep r fun a p1 p2 _ _ _ _ => u3 a (by omega)) u2 (fun _ _ _ _ => rfl)
  have cc : zCf zT znl (d + 60) 29 [.ref 0, .int (nI p), .int (nI n)] h = some (zcr (zlv (90 + 8 * p + 3) (h 92 (90 + 8 * p + 2)) n 100 0 (h 92)) h2) := by
    simp only [e29, q29_0, q29_1, q29_2, q29_5, q29_8, q29_9, q29_10, q29_12, q29_15, q29_24, q29_25, q29_28, q29_31, q29_32, q29_33, q29_34, q29_35, q29_36, q29_37, q29_40, q29_41, q29_44, q29_47, q29_48, c12', c0, h12, e, f, gf_L0, gf_L2, gf_W2 zW_1, aal_W zW_1 p8, ald_row zW_1 p8 (show 2 < 8 by decide), hm2, u1, v1, rc_W zW_49, ce_1, ce_2, ce_3, ce_4, ce_5, ce_6, cm_1, cm_2, cm_3, cm_4, cm_5, cm_6, rc_L, rc_M, zn1_0, if_true, if_false, ↓reduceIte, Option.bind_some, Option.toList_some, Option.toList_none, List.cons_append, List.nil_append, zB_go, zB_end, zB_no, zokv_i, zokv_r, zokv_n, eq_self]
  have A1 : zAl h h2 := zAl_trans (zAl_49 u3) (zAl_49 v2)
  have k92 : h2 92 = h 92 := by rw [v2 92 (by omega), u3 92 (by omega)]
  have mm : ∀ g : zH, g 92 = h 92 → ∃ g', zCf zT znl (d + 60) 172 [.ref 91, .int (nI p), .int (nI n)] g = (if zco (zlv (90 + 8 * p + 3) (h 92 (90 + 8 * p + 2)) n 100 0 (h 92)) = -1 then some (some (.int (zev 2)), zem 2 g') else some (some (.int (zco (zlv (90 + 8 * p + 3) (h 92 (90 + 8 * p + 2)) n 100 0 (h 92)))), g')) ∧ zAl g g' := by
    intro g kg
    obtain ⟨g1, v', x', p1, p2, p3⟩ := w172 (d + 48) (M := n) (was := h 92 (90 + 8 * p + 3)) (by omega) p8 z 100 0 g (h 92 (90 + 8 * p + 3)) (by omega) (by rw [kg, zud_self])
    refine ⟨zup g1 92 (90 + 8 * p + 3) (h 92 (90 + 8 * p + 3)), ?_, zAl_m ?_ fun a i1 i2 i3 i4 i5 => by rw [zup_row_ne i1, p3 a i1 i2 i3 i4 i5]⟩
    · simp only [e172, q172_0, q172_1, q172_2, q172_5, q172_8, q172_9, q172_12, q172_21, q172_23, q172_25, q172_26, q172_27, q172_28, q172_29, q172_30, q172_31, q172_32, q172_35, q172_36, q172_37, q172_39, q172_40, q172_42, q172_43, q172_95, q172_96, q172_99, q172_100, q172_102, q172_103, q172_105, q172_106, q172_109, q172_110, q172_111, q172_114, q172_117, q172_119, c111, c165, kg, m0, e', f, pk_mul, nI_add, gf_M0, ald_n92 (show 90 + 8 * p + 3 < 488 by omega), ast_n92 (show 90 + 8 * p + 3 < 488 by omega), p1, ce_1, ce_2, ce_3, ce_4, ce_5, ce_6, cm_1, cm_2, cm_3, cm_4, cm_5, cm_6, rc_L, rc_M, zn1_0, if_true, if_false, ↓reduceIte, Option.bind_some, Option.toList_some, Option.toList_none, List.cons_append, List.nil_append, zB_go, zB_end, zB_no, zokv_i, zokv_r, zokv_n, eq_self]
    · rw [zup_ud, p2, zud_zud, zud_self, kg]
      exact zEq_refl _
  cases w : zlv (90 + 8 * p + 3) (h 92 (90 + 8 * p + 2)) n 100 0 (h 92) with
  | none =>
    rw [w] at cc mm
    obtain ⟨g', m1, m2⟩ := mm (zer 2 h2) (by rw [zer_ne (by decide)]; exact k92)
    rw [if_pos (show zco none = -1 from rfl)] at m1
    exact zOp_ale 2 R cc m1 A1 m2
  | some j =>
    rw [w] at cc mm
    have := zlv_lt 100 0 j w
    obtain ⟨g', m1, m2⟩ := mm h2 k92
    rw [show zco (some j) = nI j from rfl, if_neg (zni_m1 (by omega))] at m1
    exact zOp_al R cc m1 A1 m2
end O68
