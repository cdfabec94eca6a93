/-! ===== round, both sides ===== -/
section O82
variable (d : Nat) {h : zH}
theorem w179 {N q : Nat} {s : Nat → Int32} {x : Int32} (hq : q < 100) : ∀ (m w : Nat) (g : zH) (mk : Nat) (a4 : Value), w + m = 201 → zJ (zwks w s) N mk → (zwks w s) 7 = nI q → g 92 = zwks w s → (∀ v, v < w → ∀ c, c < 9 → g 100 (9 * v + c) = zrd (zwks v s) c) → (∀ j, j < w → ∀ i, ¬ zAgain s i j) → ∃ g' t w' a4' T, zXf zT znl (d + 8) 179 30 [.ref 91, .int x, .int (-1), .int (nI w), a4] [] g = zXf zT znl (d + 8) 179 161 [.ref 91, .int x, .int t, .int (nI w'), a4'] [] g' ∧ g' 92 = zwks T s ∧ ((t = -1 ∧ zNever s) ∨ ∃ i, t = nI i ∧ zFirst s w' i) ∧ ∀ a, a ≠ 92 → a ≠ 97 → a ≠ 98 → a ≠ 99 → a ≠ 100 → g' a = g a := by
  intro m
  induction m with
  | zero =>
    intro w g mk a4 hw z h7 e hs no
    have le : nI 200 < nI w := nI_lt (by omega) (by omega)
    refine ⟨g, -1, w, a4, w, ?_, e, Or.inl ⟨rfl, fun j hj i => no j (by omega) i⟩, fun _ _ _ _ _ _ => rfl⟩
    rw [q179_30]
    simp only [q179_31, q179_32, q179_35, q179_36, q179_39, le, zn1_0, if_true, if_false, ↓reduceIte, Option.bind_some, Option.toList_some, Option.toList_none, List.cons_append, List.nil_append, zB_go, zB_end, zB_no, zokv_i, zokv_r, zokv_n, eq_self]
  | succ m ih =>
    intro w g mk a4 hw z h7 e hs no
    have le : ¬ nI 200 < nI w := nI_nlt (by omega) (by decide)
    obtain ⟨g0, eg⟩ : ∃ g0, zup g 100 (9 * w) (zwks w s 1) = g0 := ⟨_, rfl⟩
    have k0 : g0 92 = zwks w s := by rw [← eg, zup_row_ne (by decide)]; exact e
    obtain ⟨g1, p1, p2, p3⟩ := w179p (d + 7) (x := x) (t := -1) (show w < 201 by omega) z 8 0 g0 (by omega) k0
    obtain ⟨t, i', r1, r2⟩ := w179i (d + 7) (x := x) (show w < 201 by omega) (g := g1) w 0 (by omega)
    have k1 : g1 92 = zwks w s := by rw [p3 92 (by decide)]; exact k0
    have sv : ∀ v, v ≤ w → ∀ c, c < 9 → g1 100 (9 * v + c) = zrd (zwks v s) c := by
      intro v hv c hc
      rw [p2]
      by_cases y : v = w
      · subst y
        by_cases c0 : c = 0
        · subst c0
          rw [if_neg (by omega), ← eg, Nat.add_zero, zup_at]
          rfl
        · rw [if_pos (by omega)]
          congr 1
          omega
      · rw [if_neg (by omega), ← eg, zup_o (by omega)]
        exact hs v (by omega) c hc
    have fr : ∀ a, a ≠ 100 → g1 a = g a := fun a ha => by rw [p3 a ha, ← eg, zup_row_ne ha]
    have sm : ∀ i, i < w → (w - i) % 4 = 0 → (zsame (fun c => g1 100 (9 * i + c)) (fun c => g1 100 (9 * w + c)) 9 0 = true ↔ zAgain s i w) := fun i hi h4 => zAgain_s hi h4 (fun c hc => sv i (by omega) c hc) (fun c hc => sv w (Nat.le_refl _) c hc)
    have b1 : zXf zT znl (d + 8) 179 30 [.ref 91, .int x, .int (-1), .int (nI w), a4] [] g = zXf zT znl (d + 8) 179 146 [.ref 91, .int x, .int t, .int (nI w), .int (nI i')] [] g1 := by
      rw [← r1, q179_30]
      simp only [q179_31, q179_32, q179_35, q179_36, q179_39, q179_42, q179_43, q179_46, q179_48, q179_49, q179_50, q179_51, q179_54, q179_55, q179_56, q179_57, q179_58, gf_M0, gf_M13, ald_n92 (show 1 < 488 by decide), e, pk_mul, ast_n100 (show 9 * w < 1809 by omega), eg, le, p1, q179_109, q179_110, zn1_0, if_true, if_false, ↓reduceIte, Option.bind_some, Option.toList_some, Option.toList_none, List.cons_append, List.nil_append, zB_go, zB_end, zB_no, zokv_i, zokv_r, zokv_n, eq_self]
    rcases r2 with ⟨rfl, r3⟩ | ⟨i, hi, rfl, h4, r5⟩
    · have no' : ∀ j, j < w + 1 → ∀ i, ¬ zAgain s i j := by
        intro j hj i hA
        by_cases y : j = w
        · subst y
          exact r3 i (Nat.zero_le _) hA.1 ⟨hA.2.1, (sm i hA.1 hA.2.1).mpr hA⟩
        · exact no j (by omega) i hA
      obtain ⟨g2, f1, f2, f3⟩ := c157 (d + 1) (h := g1) hq (by rw [k1]; exact z) (by rw [k1]; exact h7)
      rw [k1, ← zwks_s] at f2
      obtain ⟨mk', z'⟩ := zJ_week z
      rw [← zwks_s] at z'
      obtain ⟨g', t', w', a4', T, e1, e2, e3, e4⟩ := ih (w + 1) g2 mk' (.int (nI i')) (by omega) z' (by rw [zwks_s]; exact (zweek_lo z (by decide) (by decide) (by decide)).trans h7) f2 (fun v hv c hc => by rw [f3 100 (by decide) (by decide) (by decide) (by decide)]; exact sv v (by omega) c hc) no'
      refine ⟨g', t', w', a4', T, ?_, e2, e3, fun a i1 i2 i3 i4 i5 => by rw [e4 a i1 i2 i3 i4 i5, f3 a i1 i2 i3 i4, fr a i5]⟩
      rw [b1, ← e1]
      simp only [q179_146, q179_147, q179_148, q179_151, q179_152, q179_155, q179_158, f1, rc_M, nI_add, zn1_0, if_true, if_false, ↓reduceIte, Option.bind_some, Option.toList_some, Option.toList_none, List.cons_append, List.nil_append, zB_go, zB_end, zB_no, zokv_i, zokv_r, zokv_n, eq_self]
    · have n1 := zni_m1 (show i < 1000 by omega)
      refine ⟨g1, nI i, w, .int (nI i'), w, ?_, k1, Or.inr ⟨i, rfl, by omega, (sm i hi h4).mp r5, no⟩, fun a _ _ _ _ i5 => fr a i5⟩
      rw [b1]
      simp only [q179_146, q179_147, q179_148, n1, zn1_0, if_true, if_false, ↓reduceIte, Option.bind_some, Option.toList_some, Option.toList_none, List.cons_append, List.nil_append, zB_go, zB_end, zB_no, zokv_i, zokv_r, zokv_n, eq_self]
      rw [q179_30]
      simp only [q179_31, q179_32, n1, zn1_0, if_true, if_false, ↓reduceIte, Option.bind_some, Option.toList_some, Option.toList_none, List.cons_append, List.nil_append, zB_go, zB_end, zB_no, zokv_i, zokv_r, zokv_n, eq_self]
theorem o33 (R : Rel h) (x : Int32) : zOp (d + 60) 33 179 [.int x] h := by
  obtain ⟨⟨N, mk, z⟩, r, -⟩ := id R
  rcases zwi_c x 1 (by decide) with e | ⟨c, hc, rfl, e⟩
  · exact zOp_k 1 R (by simp only [e33, q33_0, q33_1, q33_2, q33_3, q33_6, q33_9, q33_10, q33_11, q33_14, c0, e, ce_1, ce_2, ce_3, ce_4, ce_5, ce_6, cm_1, cm_2, cm_3, cm_4, cm_5, cm_6, rc_L, rc_M, zn1_0, if_true, if_false, ↓reduceIte, Option.bind_some, Option.toList_some, Option.toList_none, List.cons_append, List.nil_append, zB_go, zB_end, zB_no, zokv_i, zokv_r, zokv_n, eq_self]) fun g hg => by simp only [e179, q179_0, q179_1, q179_2, q179_3, q179_6, q179_9, q179_10, q179_11, q179_14, c107, e, ce_1, ce_2, ce_3, ce_4, ce_5, ce_6, cm_1, cm_2, cm_3, cm_4, cm_5, cm_6, rc_L, rc_M, zn1_0, if_true, if_false, ↓reduceIte, Option.bind_some, Option.toList_some, Option.toList_none, List.cons_append, List.nil_append, zB_go, zB_end, zB_no, zokv_i, zokv_r, zokv_n, eq_self]
  obtain ⟨q7, hq, h7⟩ := z.2.1
  obtain ⟨h1, u1, u2, u3⟩ := c50n (d + 57) R
  obtain ⟨h2, v1, v2, v3⟩ := c99 (d + 57) (w := 0) (by decide) z.1 h1 u2
  have hx : nI c = nI 0 ∨ nI c = nI 1 := by
    obtain rfl | rfl : c = 0 ∨ c = 1 := by omega
    · exact Or.inl rfl
    · exact Or.inr rfl
  obtain ⟨h3, s1, s2⟩ := w33 (d + 51) (s := h 92) (x := nI c) hq hx 200 0 h2 mk Value.null (by omega) z.1 h7 (zRW_keep u2 fun a p1 p2 _ _ _ _ => v3 a (by omega)) (fun v hv c hc => by rw [show v = 0 by omega]; exact v2 c hc) (fun j hj i hA => absurd hA.1 (by omega))
  have fr : ∀ a, ¬ (49 ≤ a ∧ a < 73) → ¬ (108 ≤ a ∧ a < 309) → h3 a = h a := fun a q1 q2 => by rw [s1 a q1 q2, v3 a (by omega), u3 a q1]
  have A1 : zAl h h3 := zAl_of fun a ha => fr a (by unfold zsg at ha; omega) (by unfold zsg at ha; omega)
  have b1 : zCf zT znl (d + 60) 33 [.ref 0, .int (nI c)] h = zXf zT znl (d + 59) 33 40 [.ref 0, .int (nI c), .int (nI (0 + 1)), .null] [] h2 := by
    simp only [e33, q33_0, q33_1, q33_2, q33_3, q33_6, q33_15, q33_16, q33_19, q33_20, q33_23, q33_26, q33_27, q33_30, q33_31, q33_34, q33_35, q33_38, q33_39, c0, e, gf_L0, gf_L2, gf_L5, u1, v1, rc_W zW_49, rc_D, Nat.zero_add, ce_1, ce_2, ce_3, ce_4, ce_5, ce_6, cm_1, cm_2, cm_3, cm_4, cm_5, cm_6, rc_L, rc_M, zn1_0, if_true, if_false, ↓reduceIte, Option.bind_some, Option.toList_some, Option.toList_none, List.cons_append, List.nil_append, zB_go, zB_end, zB_no, zokv_i, zokv_r, zokv_n, eq_self]
  have k92 : h3 92 = h 92 := fr 92 (by omega) (by omega)
  have mm : ∀ g : zH, g 92 = h 92 → ∃ g' t w', zCf zT znl (d + 60) 179 [.ref 91, .int (nI c)] g = (if t = -1 then some (some (.int (zev 2)), zem 2 g') else some (some (.int (if nI c = nI 0 then t else nI w' - t)), g')) ∧ ((t = -1 ∧ zNever (h 92)) ∨ ∃ i, t = nI i ∧ zFirst (h 92) w' i) ∧ zAl g g' := by
    intro g kg
    obtain ⟨g1, a1, a2, a3⟩ := c109sx (d + 58) g
    have k1 : g1 92 = h 92 := by rw [a3 92 (by decide)]; exact kg
    obtain ⟨g2, t, w', a4', T, f1, f2, f3, f4⟩ := w179 (d + 51) (s := h 92) (x := nI c) hq 201 0 g1 mk Value.null (by omega) z.1 h7 k1 (fun v hv => absurd hv (by omega)) (fun j hj => absurd hj (by omega))
    obtain ⟨g4, p1, p2, p3⟩ := c109bx (d + 58) g2
    have eb : g4 92 = h 92 := zback kg a2 (f4 94 (by decide) (by decide) (by decide) (by decide) (by decide)) (fun i hi => by rw [f2]; exact zwks_hi T z.1 (by omega)) p2
    refine ⟨g4, t, w', ?_, f3, ⟨by rw [eb, kg]; exact zEq_refl _, fun a ha => ?_⟩⟩
    · have b2 : zCf zT znl (d + 60) 179 [.ref 91, .int (nI c)] g = zXf zT znl (d + 59) 179 172 [.ref 91, .int (nI c), .int t, .int (nI w'), a4'] [] g4 := by
        simp only [e179, q179_0, q179_1, q179_2, q179_3, q179_6, q179_15, q179_16, q179_19, q179_20, q179_23, q179_26, q179_27, q179_28, q179_29, q179_161, q179_162, q179_165, q179_166, q179_169, c107, e, gf_M0, gf_M2, a1, f1, p1, ce_1, ce_2, ce_3, ce_4, ce_5, ce_6, cm_1, cm_2, cm_3, cm_4, cm_5, cm_6, rc_L, rc_M, zn1_0, if_true, if_false, ↓reduceIte, Option.bind_some, Option.toList_some, Option.toList_none, List.cons_append, List.nil_append, zB_go, zB_end, zB_no, zokv_i, zokv_r, zokv_n, eq_self]
      rw [b2]
      by_cases t1 : t = -1
      · rw [if_pos t1]
        subst t1
        simp only [q179_172, q179_173, q179_174, q179_177, q179_178, q179_179, q179_182, q179_196, ce_1, ce_2, ce_3, ce_4, ce_5, ce_6, cm_1, cm_2, cm_3, cm_4, cm_5, cm_6, rc_L, rc_M, zn1_0, if_true, if_false, ↓reduceIte, Option.bind_some, Option.toList_some, Option.toList_none, List.cons_append, List.nil_append, zB_go, zB_end, zB_no, zokv_i, zokv_r, zokv_n, eq_self]
      · rw [if_neg t1]
        obtain rfl | rfl : c = 0 ∨ c = 1 := by omega
        · rw [if_pos rfl]
          simp only [q179_172, q179_173, q179_174, q179_185, q179_186, q179_189, q179_190, q179_196, t1, ce_1, ce_2, ce_3, ce_4, ce_5, ce_6, cm_1, cm_2, cm_3, cm_4, cm_5, cm_6, rc_L, rc_M, zn1_0, if_true, if_false, ↓reduceIte, Option.bind_some, Option.toList_some, Option.toList_none, List.cons_append, List.nil_append, zB_go, zB_end, zB_no, zokv_i, zokv_r, zokv_n, eq_self]
        · rw [if_neg (by decide)]
          simp only [q179_172, q179_173, q179_174, q179_185, q179_186, q179_193, q179_194, q179_195, q179_196, t1, ce_1, ce_2, ce_3, ce_4, ce_5, ce_6, cm_1, cm_2, cm_3, cm_4, cm_5, cm_6, rc_L, rc_M, zn1_0, if_true, if_false, ↓reduceIte, Option.bind_some, Option.toList_some, Option.toList_none, List.cons_append, List.nil_append, zB_go, zB_end, zB_no, zokv_i, zokv_r, zokv_n, eq_self]
    · unfold zsg at ha
      rw [p3 a (by omega), f4 a (by omega) (by omega) (by omega) (by omega) (by omega), a3 a (by omega)]
  rcases s2 with ⟨nv, s3⟩ | ⟨w, i, fi, s3⟩
  · rw [s3] at b1
    obtain ⟨g', t, w', m1, m2, m3⟩ := mm (zer 2 h3) (by rw [zer_ne (by decide)]; exact k92)
    rcases m2 with ⟨m2, -⟩ | ⟨i, -, m2⟩
    · rw [if_pos m2] at m1
      exact zOp_ale 2 R b1 m1 A1 m3
    · exact absurd m2.2.1 (nv w' m2.1 i)
  · rw [s3] at b1
    obtain ⟨g', t, w', m1, m2, m3⟩ := mm h3 k92
    rcases m2 with ⟨-, m2⟩ | ⟨i', m4, m2⟩
    · exact absurd fi.2.1 (m2 w fi.1 i)
    · obtain ⟨rfl, rfl⟩ := zFirst_1 fi m2
      have := fi.2.1.1
      have := fi.1
      rw [m4, if_neg (zni_m1 (by omega))] at m1
      exact zOp_al R b1 m1 A1 m3
end O82
