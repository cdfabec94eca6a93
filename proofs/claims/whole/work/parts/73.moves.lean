/-! ===== moves ===== -/
def zmg (s : Nat → Int32) (j : Nat) : Bool := decide (zn s (90 + 8 * j + 1) < 50) && (decide (¬ zn s (90 + 8 * j + 2) = zn s 1) && decide (zwo s j (zn s 1) < zn s (90 + 8 * j + 1)))
def zmv1 (s : Nat → Int32) (j : Nat) : Nat → Int32 := if zmg s j = true then zud s (90 + 8 * j + 2) (nI (ngo s (zn s (90 + 8 * j + 2)) (zn s 1) true)) else s
def zmvc : (Nat → Int32) → Nat → Nat → Nat
  | _, _, 0 => 0
  | s, j, n + 1 => (if zmg s j = true then 1 else 0) + zmvc (zmv1 s j) (j + 1) n
theorem zJ_mv1 {s : Nat → Int32} {N mk j : Nat} (hj : j < 8) (z : zJ s N mk) : zJ (zmv1 s j) N mk := by
  unfold zmv1
  split
  · obtain ⟨kd, m, hm, vo, ho, gd, hu, l0, l1, l2, l3, l4, l5, l7, p0, p1, p2, p3, p4, p5, p7⟩ := z.2.2.2.2.1 j hj
    have lk := z.2.2.2.1
    refine zJ_udp hj (by decide) (zpok2 ?_) z
    rw [zn_of p2 (by omega), zn_of z.2.2.1 (by omega)]
    exact ngo_lt l2 lk
  · exact z
section O73
variable (d : Nat) {h : zH}
theorem c72 {N mk j : Nat} {s : Nat → Int32} (hj : j < 8) (z : zJ s N mk) (r : zRW 1 s h) : ∃ h', zCf zT znl (d + 4) 72 [.ref 1, .ref (1 + 4 + j)] h = some (some (.int (if zmg s j = true then nI 1 else nI 0)), h') ∧ zRW 1 (zmv1 s j) h' ∧ ∀ a, ¬ (1 ≤ a ∧ a < 25) → h' a = h a := by
  obtain ⟨kd, m, hm, vo, ho, gd, hu, l0, l1, l2, l3, l4, l5, l7, p0, p1, p2, p3, p4, p5, p7⟩ := id (z.2.2.2.2.1 j hj)
  have lk := z.2.2.2.1
  have r9 : h 1 9 = nI mk := r.2.2.2.1.1.trans z.2.2.1
  have q1 : h (1 + 4 + j) 1 = nI m := (r.2.2.1 j hj 1 (by decide)).trans p1
  have q2 : h (1 + 4 + j) 2 = nI hm := (r.2.2.1 j hj 2 (by decide)).trans p2
  have v := fun d => c3w d zW_1 hj r (z.2.2.2.2.1 j hj) lk
  have ww := nworth_lt (g := gd) (m := m) (hm := hm) (c := mk) l5
  have ew : zwo s j mk < 100 := by
    unfold zwo
    rw [zn_of p5 (by omega), zn_of p1 (by omega), zn_of p2 (by omega)]
    exact ww
  have g1 := fun d => c55 d h zW_1 r.1 l2 lk true
  simp only [eq_self, if_true] at g1
  unfold zmv1 zmg
  rw [zn_of p1 (by omega), zn_of p2 (by omega), zn_of z.2.2.1 (by omega)]
  by_cases a1 : m < 50
  · have b1 : ¬ nI 49 < nI m := nI_nlt (by omega) (by omega)
    by_cases a2 : hm = mk
    · subst a2
      refine ⟨h, ?_, ?_, fun _ _ => rfl⟩
      · simp (decide := true) only [e72, q72_0, q72_1, q72_2, q72_3, q72_5, q72_8, q72_9, q72_10, q72_11, q72_12, q72_15, q72_32, q72_33, gf_W9 zW_1, ald_row zW_1 hj (show 1 < 8 by decide), ald_row zW_1 hj (show 2 < 8 by decide), q1, q2, r9, b1, Bool.and_false, Bool.false_and, decide_true, decide_false, not_true_eq_false, Bool.false_eq_true, zn1_0, if_true, if_false, ↓reduceIte, Option.bind_some, Option.toList_some, Option.toList_none, List.cons_append, List.nil_append, zB_go, zB_end, zB_no, zokv_i, zokv_r, zokv_n, eq_self]
      · simp only [not_true_eq_false, decide_false, Bool.false_and, Bool.and_false, Bool.false_eq_true, if_false]
        exact r
    · have b2 : ¬ nI hm = nI mk := nI_ne a2 (by omega) (by omega)
      by_cases a3 : zwo s j mk < m
      · have b3 := nI_lt a3 (by omega)
        refine ⟨zup h (1 + 4 + j) 2 (nI (ngo s hm mk true)), ?_, ?_, fun a ha => zup_row_ne (by omega)⟩
        · simp (decide := true) only [e72, q72_0, q72_1, q72_2, q72_3, q72_5, q72_8, q72_9, q72_10, q72_11, q72_12, q72_15, q72_18, q72_19, q72_20, q72_23, q72_26, q72_27, q72_28, q72_29, q72_34, q72_35, q72_36, q72_37, q72_38, q72_39, q72_40, q72_41, q72_44, q72_45, q72_48, q72_49, q72_50, gf_W9 zW_1, ald_row zW_1 hj (show 1 < 8 by decide), ald_row zW_1 hj (show 2 < 8 by decide), ast_row zW_1 hj (show 2 < 8 by decide), q1, q2, r9, b1, b2, b3, v, g1, a1, a2, a3, rc_W zW_1, Bool.and_self, decide_true, not_false_eq_true, zn1_0, if_true, if_false, ↓reduceIte, Option.bind_some, Option.toList_some, Option.toList_none, List.cons_append, List.nil_append, zB_go, zB_end, zB_no, zokv_i, zokv_r, zokv_n, eq_self]
        · simp only [a1, a2, a3, decide_true, not_false_eq_true, Bool.and_self, if_true]
          exact zRW_pl hj (by decide) r
      · have b3 : ¬ nI (zwo s j mk) < nI m := nI_nlt (by omega) (by omega)
        refine ⟨h, ?_, ?_, fun _ _ => rfl⟩
        · simp (decide := true) only [e72, q72_0, q72_1, q72_2, q72_3, q72_5, q72_8, q72_9, q72_10, q72_11, q72_12, q72_15, q72_18, q72_19, q72_20, q72_23, q72_26, q72_27, q72_28, q72_29, q72_32, q72_33, gf_W9 zW_1, ald_row zW_1 hj (show 1 < 8 by decide), ald_row zW_1 hj (show 2 < 8 by decide), q1, q2, r9, b1, b2, b3, v, a3, Bool.and_false, decide_false, Bool.false_eq_true, zn1_0, if_true, if_false, ↓reduceIte, Option.bind_some, Option.toList_some, Option.toList_none, List.cons_append, List.nil_append, zB_go, zB_end, zB_no, zokv_i, zokv_r, zokv_n, eq_self]
        · simp only [a3, decide_false, Bool.and_false, Bool.false_eq_true, if_false]
          exact r
  · have b1 : nI 49 < nI m := nI_lt (by omega) (by omega)
    refine ⟨h, ?_, ?_, fun _ _ => rfl⟩
    · simp (decide := true) only [e72, q72_0, q72_1, q72_2, q72_3, q72_5, q72_32, q72_33, ald_row zW_1 hj (show 1 < 8 by decide), q1, b1, a1, Bool.false_and, decide_false, Bool.false_eq_true, zn1_0, if_true, if_false, ↓reduceIte, Option.bind_some, Option.toList_some, Option.toList_none, List.cons_append, List.nil_append, zB_go, zB_end, zB_no, zokv_i, zokv_r, zokv_n, eq_self]
    · simp only [a1, decide_false, Bool.false_and, Bool.false_eq_true, if_false]
      exact r
theorem w24 {N mk : Nat} : ∀ (n j c : Nat) (s : Nat → Int32) (h : zH), j + n = N → zJ s N mk → zRW 1 s h → ∃ h', zXf zT znl (d + 4) 24 4 [.ref 0, .int (nI c), .int (nI j)] [] h = some (some (.int (nI (c + zmvc s j n))), h') ∧ zRW 1 (zit zmv1 s j n) h' ∧ ∀ a, ¬ (1 ≤ a ∧ a < 25) → h' a = h a := by
  intro n
  induction n with
  | zero =>
    intro j c s h hj z r
    have h12 : h 1 12 = nI N := r.2.2.2.1.2.2.2.1.trans z.1
    have le : nI N ≤ nI j := by rw [show j = N by omega]; exact Int32.le_refl _
    refine ⟨h, ?_, r, fun _ _ => rfl⟩
    rw [q24_4]
    simp only [q24_5, q24_6, q24_9, q24_12, q24_43, q24_44, gf_L0, gf_W12 zW_1, h12, le, zn1_0, if_true, if_false, ↓reduceIte, Option.bind_some, Option.toList_some, Option.toList_none, List.cons_append, List.nil_append, zB_go, zB_end, zB_no, zokv_i, zokv_r, zokv_n, eq_self]
    rfl
  | succ n ih =>
    intro j c s h hj z r
    have hN8 := z.2.1
    have h12 : h 1 12 = nI N := r.2.2.2.1.2.2.2.1.trans z.1
    have le : ¬ nI N ≤ nI j := nI_ge (by omega) (by omega)
    have j8 : j < 8 := by omega
    obtain ⟨h1, f1, f2, f3⟩ := c72 d j8 z r
    unfold zmvc
    show ∃ h', _ ∧ zRW 1 (zit zmv1 (zmv1 s j) (j + 1) n) h' ∧ _
    by_cases q : zmg s j = true
    · rw [if_pos q] at f1
      obtain ⟨h', p1, p2, p3⟩ := ih (j + 1) (c + 1) (zmv1 s j) h1 (by omega) (zJ_mv1 j8 z) f2
      refine ⟨h', ?_, p2, fun a ha => by rw [p3 a ha, f3 a ha]⟩
      rw [if_pos q, show c + (1 + zmvc (zmv1 s j) (j + 1) n) = c + 1 + zmvc (zmv1 s j) (j + 1) n by omega, ← p1, q24_4]
      simp only [q24_5, q24_6, q24_9, q24_12, q24_15, q24_16, q24_19, q24_20, q24_23, q24_26, q24_27, q24_28, q24_31, q24_34, q24_37, q24_40, gf_L0, gf_W12 zW_1, gf_W2 zW_1, aal_W zW_1 j8, h12, le, f1, rc_W zW_1, nI_add, zn1_0, if_true, if_false, ↓reduceIte, Option.bind_some, Option.toList_some, Option.toList_none, List.cons_append, List.nil_append, zB_go, zB_end, zB_no, zokv_i, zokv_r, zokv_n, eq_self]
    · rw [if_neg q] at f1
      obtain ⟨h', p1, p2, p3⟩ := ih (j + 1) c (zmv1 s j) h1 (by omega) (zJ_mv1 j8 z) f2
      refine ⟨h', ?_, p2, fun a ha => by rw [p3 a ha, f3 a ha]⟩
      rw [if_neg q, Nat.zero_add, ← p1, q24_4]
      simp only [q24_5, q24_6, q24_9, q24_12, q24_15, q24_16, q24_19, q24_20, q24_23, q24_26, q24_27, q24_28, q24_31, q24_37, q24_40, gf_L0, gf_W12 zW_1, gf_W2 zW_1, aal_W zW_1 j8, h12, le, f1, rc_W zW_1, nI_add, zn1_0, if_true, if_false, ↓reduceIte, Option.bind_some, Option.toList_some, Option.toList_none, List.cons_append, List.nil_append, zB_go, zB_end, zB_no, zokv_i, zokv_r, zokv_n, eq_self]
theorem w164 {N mk : Nat} : ∀ (n j c : Nat) (h : zH) (a3 : Value), j + n = N → zJ (h 92) N mk → ∃ h', zXf zT znl (d + 4) 164 4 [.ref 91, .int (nI c), .int (nI j), a3] [] h = some (some (.int (nI (c + zmvc (h 92) j n))), h') ∧ h' 92 = zit zmv1 (h 92) j n ∧ ∀ a, a ≠ 92 → h' a = h a := by
  intro n
  induction n with
  | zero =>
    intro j c h a3 hj z
    have le : nI N ≤ nI j := by rw [show j = N by omega]; exact Int32.le_refl _
    refine ⟨h, ?_, rfl, fun _ _ => rfl⟩
    rw [q164_4]
    simp only [q164_5, q164_6, q164_9, q164_10, q164_11, q164_110, q164_111, gf_M0, ald_n92 (show 0 < 488 by decide), z.1, le, zn1_0, if_true, if_false, ↓reduceIte, Option.bind_some, Option.toList_some, Option.toList_none, List.cons_append, List.nil_append, zB_go, zB_end, zB_no, zokv_i, zokv_r, zokv_n, eq_self]
    rfl
  | succ n ih =>
    intro j c h a3 hj z
    have hN8 := z.2.1
    have le : ¬ nI N ≤ nI j := nI_ge (by omega) (by omega)
    have j8 : j < 8 := by omega
    obtain ⟨kd, m, hm, vo, ho, gd, hu, l0, l1, l2, l3, l4, l5, l7, p0, p1, p2, p3, p4, p5, p7⟩ := id (z.2.2.2.2.1 j j8)
    have lk := z.2.2.2.1
    have v := fun d => c128w d (h := h) j8 (z.2.2.2.2.1 j j8) lk
    have ew : zwo (h 92) j mk < 100 := by
      unfold zwo
      rw [zn_of p5 (by omega), zn_of p1 (by omega), zn_of p2 (by omega)]
      exact nworth_lt l5
    have i1 := fun d g => c112 d g j8 (show 1 < 8 by decide)
    have i2 := fun d g => c112 d g j8 (show 2 < 8 by decide)
    have g1 := fun d => c127 d h l2 lk true
    simp only [eq_self, if_true] at g1
    have zz := zJ_mv1 j8 z
    have eg : zmg (h 92) j = (decide (m < 50) && (decide (¬ hm = mk) && decide (zwo (h 92) j mk < m))) := by
      unfold zmg
      rw [zn_of p1 (by omega), zn_of p2 (by omega), zn_of z.2.2.1 (by omega)]
    unfold zmvc
    show ∃ h' : zH, _ ∧ h' 92 = zit zmv1 (zmv1 (h 92) j) (j + 1) n ∧ _
    have no : zmg (h 92) j = false → zXf zT znl (d + 4) 164 4 [.ref 91, .int (nI c), .int (nI j), a3] [] h = zXf zT znl (d + 4) 164 4 [.ref 91, .int (nI c), .int (nI (j + 1)), .int (nI 0)] [] h := by
      intro q
      rw [q164_4]
      by_cases a1 : m < 50
      · have b1 : ¬ nI 50 ≤ nI m := nI_ge (by omega) (by decide)
        by_cases a2 : hm = mk
        · have b2 : nI hm = nI mk := by rw [a2]
          simp only [q164_5, q164_6, q164_9, q164_10, q164_11, q164_14, q164_15, q164_16, q164_17, q164_20, q164_22, q164_25, q164_26, q164_27, q164_28, q164_31, q164_32, q164_35, q164_36, q164_37, q164_64, q164_65, q164_66, q164_67, q164_104, q164_107, gf_M0, ald_n92 (show 0 < 488 by decide), ald_n92 (show 1 < 488 by decide), z.1, z.2.2.1, le, i1, i2, p1, p2, b1, b2, rc_M, nI_add, zn1_0, if_true, if_false, ↓reduceIte, Option.bind_some, Option.toList_some, Option.toList_none, List.cons_append, List.nil_append, zB_go, zB_end, zB_no, zokv_i, zokv_r, zokv_n, eq_self]
        · have b2 : ¬ nI hm = nI mk := nI_ne a2 (by omega) (by omega)
          have a3 : ¬ zwo (h 92) j mk < m := fun w => by rw [eg, decide_eq_true a1, decide_eq_true a2, decide_eq_true w] at q; cases q
          have b3 : nI m ≤ nI (zwo (h 92) j mk) := nI_le (by omega) (by omega)
          simp only [q164_5, q164_6, q164_9, q164_10, q164_11, q164_14, q164_15, q164_16, q164_17, q164_20, q164_22, q164_25, q164_26, q164_27, q164_28, q164_31, q164_32, q164_35, q164_36, q164_37, q164_40, q164_41, q164_42, q164_43, q164_46, q164_47, q164_48, q164_51, q164_52, q164_53, q164_54, q164_57, q164_64, q164_65, q164_66, q164_67, q164_104, q164_107, gf_M0, ald_n92 (show 0 < 488 by decide), ald_n92 (show 1 < 488 by decide), z.1, z.2.2.1, le, i1, i2, v, p1, p2, b1, b2, b3, rc_M, nI_add, zn1_0, if_true, if_false, ↓reduceIte, Option.bind_some, Option.toList_some, Option.toList_none, List.cons_append, List.nil_append, zB_go, zB_end, zB_no, zokv_i, zokv_r, zokv_n, eq_self]
      · have b1 : nI 50 ≤ nI m := nI_le (by omega) (by omega)
        simp only [q164_5, q164_6, q164_9, q164_10, q164_11, q164_14, q164_15, q164_16, q164_17, q164_20, q164_22, q164_64, q164_65, q164_66, q164_67, q164_104, q164_107, gf_M0, ald_n92 (show 0 < 488 by decide), z.1, le, i1, p1, b1, rc_M, nI_add, zn1_0, if_true, if_false, ↓reduceIte, Option.bind_some, Option.toList_some, Option.toList_none, List.cons_append, List.nil_append, zB_go, zB_end, zB_no, zokv_i, zokv_r, zokv_n, eq_self]
    cases q : zmg (h 92) j with
    | false =>
      have em : zmv1 (h 92) j = h 92 := by unfold zmv1; rw [q]; rfl
      rw [em]
      obtain ⟨h', f1, f2, f3⟩ := ih (j + 1) c h (.int (nI 0)) (by omega) z
      refine ⟨h', ?_, f2, f3⟩
      rw [no q, f1]
      rw [if_neg (by decide), Nat.zero_add]
    | true =>
      have em : zmv1 (h 92) j = zud (h 92) (90 + 8 * j + 2) (nI (ngo (h 92) hm mk true)) := by
        unfold zmv1
        rw [q, if_pos rfl, zn_of p2 (by omega), zn_of z.2.2.1 (by omega)]
      rw [em] at zz
      rw [em]
      have e92 : zup h 92 (90 + 8 * j + 2) (nI (ngo (h 92) hm mk true)) 92 = zud (h 92) (90 + 8 * j + 2) (nI (ngo (h 92) hm mk true)) := zup_ud ..
      obtain ⟨h', f1, f2, f3⟩ := ih (j + 1) (c + 1) (zup h 92 (90 + 8 * j + 2) (nI (ngo (h 92) hm mk true))) (.int (nI 1)) (by omega) (by rw [e92]; exact zz)
      rw [e92] at f1 f2
      refine ⟨h', ?_, f2, fun a ha => by rw [f3 a ha, zup_row_ne ha]⟩
      rw [eg, Bool.and_eq_true, Bool.and_eq_true, decide_eq_true_iff, decide_eq_true_iff, decide_eq_true_iff] at q
      obtain ⟨a1, a2, a3'⟩ := q
      have b1 : ¬ nI 50 ≤ nI m := nI_ge (by omega) (by decide)
      have b2 : ¬ nI hm = nI mk := nI_ne a2 (by omega) (by omega)
      have b3 : ¬ nI m ≤ nI (zwo (h 92) j mk) := nI_ge a3' (by omega)
      rw [if_pos rfl, show c + (1 + zmvc (zud (h 92) (90 + 8 * j + 2) (nI (ngo (h 92) hm mk true))) (j + 1) n) = c + 1 + zmvc (zud (h 92) (90 + 8 * j + 2) (nI (ngo (h 92) hm mk true))) (j + 1) n by omega, ← f1, q164_4]
      simp only [q164_5, q164_6, q164_9, q164_10, q164_11, q164_14, q164_15, q164_16, q164_17, q164_20, q164_22, q164_25, q164_26, q164_27, q164_28, q164_31, q164_32, q164_35, q164_36, q164_37, q164_40, q164_41, q164_42, q164_43, q164_46, q164_47, q164_48, q164_51, q164_52, q164_53, q164_54, q164_57, q164_60, q164_61, q164_65, q164_66, q164_67, q164_70, q164_71, q164_74, q164_76, q164_78, q164_79, q164_80, q164_81, q164_82, q164_83, q164_84, q164_85, q164_86, q164_87, q164_90, q164_91, q164_94, q164_95, q164_96, q164_97, q164_100, q164_101, q164_104, q164_107, gf_M0, ald_n92 (show 0 < 488 by decide), ald_n92 (show 1 < 488 by decide), ast_n92 (show 90 + 8 * j + 2 < 488 by omega), z.1, z.2.2.1, le, i1, i2, v, g1, p1, p2, b1, b2, b3, rc_M, pk_mul, nI_add, zn1_0, if_true, if_false, ↓reduceIte, Option.bind_some, Option.toList_some, Option.toList_none, List.cons_append, List.nil_append, zB_go, zB_end, zB_no, zokv_i, zokv_r, zokv_n, eq_self]
theorem o24 (R : Rel h) : zOp (d + 60) 24 164 [] h := by
  obtain ⟨⟨N, mk, z⟩, r, -⟩ := id R
  have hN8 := z.1.2.1
  obtain ⟨h1, p1, p2, p3⟩ := w24 (d + 55) N 0 0 (h 92) h (by omega) z.1 r
  have k92 : h1 92 = h 92 := p3 92 (by omega)
  obtain ⟨h2, g1, g2, g3⟩ := w164 (d + 55) (N := N) (mk := mk) N 0 0 h1 Value.null (by omega) (by rw [k92]; exact z.1)
  rw [k92] at g1 g2
  have zj := zJ_it (f := zmv1) (N := N) (mk := mk) (fun s j hj z => zJ_mv1 hj z) N 0 (h 92) (by omega) z.1
  have lo : ∀ i, (i < 90 ∨ 154 ≤ i) → zit zmv1 (h 92) 0 N i = h 92 i := by
    intro i hi
    refine zit_hi (fun s j hj => ?_) N 0 (h 92) (by omega)
    unfold zmv1
    split
    · rw [zud_ne (by omega)]
    · rfl
  have z' : zI (zit zmv1 (h 92) 0 N) N mk := zI_mv z zj fun i hi => lo i (by omega)
  refine ⟨nI (0 + zmvc (h 92) 0 N), h1, h2, ?_, ?_, zRow_week R z' p2 p3 g2 fun a ha _ _ _ => g3 a ha⟩
  · rw [← p1]
    simp only [e24, q24_0, q24_1, q24_2, q24_3, Option.bind_some, Option.toList_some, Option.toList_none, List.cons_append, List.nil_append, zB_go, zB_end, zB_no, zokv_i, zokv_r, zokv_n, eq_self]
  · rw [← g1]
    simp only [e164, q164_0, q164_1, q164_2, q164_3, Option.bind_some, Option.toList_some, Option.toList_none, List.cons_append, List.nil_append, zB_go, zB_end, zB_no, zokv_i, zokv_r, zokv_n, eq_self]
end O73
