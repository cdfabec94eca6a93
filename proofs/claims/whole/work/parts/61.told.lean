/-! ===== of a place: all that is told ===== -/
def ztold (s : Nat → Int32) (k c : Nat) : Int32 := if c = 8 then zshout s k else if c = 9 then nI (zwo s k (zn s 1)) else s (90 + 8 * k + c)
section O61
variable (d : Nat) {h : zH}
theorem c59 {w k c N mk : Nat} {s : Nat → Int32} (hw : zW w) (hk : k < 8) (hc : c < 10) (z : zJ s N mk) (r : zRW w s h) : ∃ h', zCf zT znl (d + 6) 59 [.ref w, .int (nI k), .int (nI c)] h = some (some (.int (ztold s k c)), h') ∧ ∀ a, a ≠ w + 20 → a ≠ w + 15 → a ≠ w + 19 → h' a = h a := by
  obtain ⟨m0, hN8, m1, lk, hP, t0, t1⟩ := z
  unfold ztold
  by_cases c8 : c = 8
  · subst c8
    obtain ⟨h', f1, f2⟩ := c58 d h hw hk r m0 hN8 m1 lk (hP k hk) t0 t1
    refine ⟨h', ?_, f2⟩
    simp only [e59, q59_0, q59_1, q59_3, q59_6, q59_7, q59_8, q59_11, q59_12, q59_13, q59_15, q59_18, q59_19, q59_22, q59_23, q59_24, q59_25, q59_28, q59_31, q59_32, q59_33, q59_36, q59_37, q59_38, q59_39, q59_40, f1, rc_W hw, zn1_0, if_true, if_false, ↓reduceIte, Option.bind_some, Option.toList_some, Option.toList_none, List.cons_append, List.nil_append, zB_go, zB_end, zB_no, zokv_i, zokv_r, zokv_n, eq_self]
  · have n8 : ¬ nI c = nI 8 := nI_ne c8 (by omega) (by decide)
    rw [if_neg c8]
    by_cases c9 : c = 9
    · subst c9
      obtain ⟨kd, m, hm, vo, ho, gd, hu, l0, l1, l2, l3, l4, l5, l7, p0, p1, p2, p3, p4, p5, p7⟩ := hP k hk
      obtain ⟨a1, a2, a3, ⟨b1, b2, b3, b4, b5, b6⟩, a5, a6, a7, a8⟩ := id r
      have g2 := fun d => c3 d h hw hk ((a3 k hk 5 (by decide)).trans p5) ((a3 k hk 1 (by decide)).trans p1) ((a3 k hk 2 (by decide)).trans p2) l5 l1 l2 lk
      refine ⟨h, ?_, fun _ _ _ _ => rfl⟩
      have ew : zwo s k (zn s 1) = nworth gd m hm mk := by
        unfold zwo
        rw [zn_of p5 (by omega), zn_of p1 (by omega), zn_of p2 (by omega), zn_of m1 (by omega)]
      rw [ew]
      simp only [e59, q59_0, q59_1, q59_3, q59_6, q59_7, q59_8, q59_11, q59_12, q59_13, q59_15, q59_18, q59_19, q59_22, q59_23, q59_24, q59_25, q59_28, q59_31, q59_32, q59_33, q59_36, q59_37, q59_38, q59_39, q59_40, n8, gf_W2 hw, gf_W9 hw, aal_W hw hk, b1, m1, g2, zn1_0, if_true, if_false, ↓reduceIte, Option.bind_some, Option.toList_some, Option.toList_none, List.cons_append, List.nil_append, zB_go, zB_end, zB_no, zokv_i, zokv_r, zokv_n, eq_self]
    · have n9 : ¬ nI c = nI 9 := nI_ne c9 (by omega) (by decide)
      refine ⟨h, ?_, fun _ _ _ _ => rfl⟩
      rw [if_neg c9]
      have g3 := r.2.2.1 k hk c (by omega)
      simp only [e59, q59_0, q59_1, q59_3, q59_6, q59_7, q59_8, q59_11, q59_12, q59_13, q59_15, q59_18, q59_19, q59_22, q59_23, q59_24, q59_25, q59_28, q59_31, q59_32, q59_33, q59_36, q59_37, q59_38, q59_39, q59_40, n8, n9, gf_W2 hw, aal_W hw hk, ald_row hw hk (show c < 8 by omega), g3, zn1_0, if_true, if_false, ↓reduceIte, Option.bind_some, Option.toList_some, Option.toList_none, List.cons_append, List.nil_append, zB_go, zB_end, zB_no, zokv_i, zokv_r, zokv_n, eq_self]
theorem c132 {k c N mk : Nat} (hk : k < 8) (hc : c < 10) (z : zJ (h 92) N mk) : ∃ h', zCf zT znl (d + 6) 132 [.ref 91, .int (nI k), .int (nI c)] h = some (some (.int (ztold (h 92) k c)), h') ∧ ∀ a, a ≠ 97 → a ≠ 98 → h' a = h a := by
  obtain ⟨m0, hN8, m1, lk, hP, t0, t1⟩ := z
  unfold ztold
  by_cases c8 : c = 8
  · subst c8
    obtain ⟨h', f1, f2⟩ := c131 d h hk m0 hN8 m1 lk (hP k hk) t0 t1
    refine ⟨h', ?_, f2⟩
    simp only [e132, q132_0, q132_1, q132_3, q132_6, q132_7, q132_8, q132_11, q132_14, q132_15, q132_17, q132_20, q132_21, q132_22, q132_23, q132_26, q132_27, q132_28, q132_31, q132_34, q132_35, q132_36, q132_37, q132_40, f1, ce_1, ce_2, ce_3, ce_4, ce_5, ce_6, cm_1, cm_2, cm_3, cm_4, cm_5, cm_6, rc_L, rc_M, zn1_0, if_true, if_false, ↓reduceIte, Option.bind_some, Option.toList_some, Option.toList_none, List.cons_append, List.nil_append, zB_go, zB_end, zB_no, zokv_i, zokv_r, zokv_n, eq_self]
  · have n8 : ¬ nI c = nI 8 := nI_ne c8 (by omega) (by decide)
    rw [if_neg c8]
    by_cases c9 : c = 9
    · subst c9
      obtain ⟨kd, m, hm, vo, ho, gd, hu, l0, l1, l2, l3, l4, l5, l7, p0, p1, p2, p3, p4, p5, p7⟩ := hP k hk
      have g3 := fun d => c128 d h hk p5 p1 p2 l5 l1 l2 lk
      refine ⟨h, ?_, fun _ _ _ => rfl⟩
      have ew : zwo (h 92) k (zn (h 92) 1) = nworth gd m hm mk := by
        unfold zwo
        rw [zn_of p5 (by omega), zn_of p1 (by omega), zn_of p2 (by omega), zn_of m1 (by omega)]
      rw [ew]
      simp only [e132, q132_0, q132_1, q132_3, q132_6, q132_7, q132_8, q132_11, q132_14, q132_15, q132_17, q132_20, q132_21, q132_22, q132_23, q132_26, q132_27, q132_28, q132_31, q132_34, q132_35, q132_36, q132_37, q132_40, n8, gf_M0, ald_n92 (show 1 < 488 by decide), m1, g3, ce_1, ce_2, ce_3, ce_4, ce_5, ce_6, cm_1, cm_2, cm_3, cm_4, cm_5, cm_6, rc_L, rc_M, zn1_0, if_true, if_false, ↓reduceIte, Option.bind_some, Option.toList_some, Option.toList_none, List.cons_append, List.nil_append, zB_go, zB_end, zB_no, zokv_i, zokv_r, zokv_n, eq_self]
    · have n9 : ¬ nI c = nI 9 := nI_ne c9 (by omega) (by decide)
      refine ⟨h, ?_, fun _ _ _ => rfl⟩
      rw [if_neg c9]
      have i1 := fun d => c112 d h hk (show c < 8 by omega)
      simp only [e132, q132_0, q132_1, q132_3, q132_6, q132_7, q132_8, q132_11, q132_14, q132_15, q132_17, q132_20, q132_21, q132_22, q132_23, q132_26, q132_27, q132_28, q132_31, q132_34, q132_35, q132_36, q132_37, q132_40, n8, n9, i1, ce_1, ce_2, ce_3, ce_4, ce_5, ce_6, cm_1, cm_2, cm_3, cm_4, cm_5, cm_6, rc_L, rc_M, zn1_0, if_true, if_false, ↓reduceIte, Option.bind_some, Option.toList_some, Option.toList_none, List.cons_append, List.nil_append, zB_go, zB_end, zB_no, zokv_i, zokv_r, zokv_n, eq_self]
theorem o13 (R : Rel h) (x y : Int32) : zOp (d + 60) 13 133 [.int x, .int y] h := by
  obtain ⟨⟨N, mk, z⟩, r, -⟩ := id R
  obtain ⟨a1, a2, a3, ⟨b1, b2, b3, b4, b5, b6⟩, a5, a6, a7, a8⟩ := id r
  have m0 := z.1.1
  have hN8 := z.1.2.1
  have h12 : h 1 12 = nI N := b4.trans m0
  rcases zpl_c x hN8 with ⟨e, e'⟩ | ⟨k, hk, rfl, e, e'⟩
  · exact zOp_k 1 R (by simp only [e13, q13_0, q13_1, q13_2, q13_5, q13_8, q13_9, q13_10, q13_12, q13_15, q13_18, q13_19, q13_20, q13_23, q13_24, q13_25, q13_28, q13_29, q13_30, q13_33, c12', h12, e, ce_1, ce_2, ce_3, ce_4, ce_5, ce_6, cm_1, cm_2, cm_3, cm_4, cm_5, cm_6, rc_L, rc_M, zn1_0, if_true, if_false, ↓reduceIte, Option.bind_some, Option.toList_some, Option.toList_none, List.cons_append, List.nil_append, zB_go, zB_end, zB_no, zokv_i, zokv_r, zokv_n, eq_self]) fun g hg => by simp only [e133, q133_0, q133_1, q133_2, q133_5, q133_8, q133_9, q133_10, q133_12, q133_15, q133_18, q133_19, q133_20, q133_21, q133_24, q133_27, q133_28, q133_29, q133_32, c111, hg 92 (by decide), m0, e', ce_1, ce_2, ce_3, ce_4, ce_5, ce_6, cm_1, cm_2, cm_3, cm_4, cm_5, cm_6, rc_L, rc_M, zn1_0, if_true, if_false, ↓reduceIte, Option.bind_some, Option.toList_some, Option.toList_none, List.cons_append, List.nil_append, zB_go, zB_end, zB_no, zokv_i, zokv_r, zokv_n, eq_self]
  rcases zwi_c y 9 (by decide) with f | ⟨c, hc, rfl, f⟩
  · exact zOp_k 1 R (by simp only [e13, q13_0, q13_1, q13_2, q13_5, q13_8, q13_9, q13_10, q13_12, q13_15, q13_18, q13_19, q13_20, q13_23, q13_24, q13_25, q13_28, q13_29, q13_30, q13_33, c12', c0, h12, e, f, ce_1, ce_2, ce_3, ce_4, ce_5, ce_6, cm_1, cm_2, cm_3, cm_4, cm_5, cm_6, rc_L, rc_M, zn1_0, if_true, if_false, ↓reduceIte, Option.bind_some, Option.toList_some, Option.toList_none, List.cons_append, List.nil_append, zB_go, zB_end, zB_no, zokv_i, zokv_r, zokv_n, eq_self]) fun g hg => by simp only [e133, q133_0, q133_1, q133_2, q133_5, q133_8, q133_9, q133_10, q133_12, q133_15, q133_18, q133_19, q133_20, q133_21, q133_24, q133_27, q133_28, q133_29, q133_32, c111, c107, hg 92 (by decide), m0, e', f, ce_1, ce_2, ce_3, ce_4, ce_5, ce_6, cm_1, cm_2, cm_3, cm_4, cm_5, cm_6, rc_L, rc_M, zn1_0, if_true, if_false, ↓reduceIte, Option.bind_some, Option.toList_some, Option.toList_none, List.cons_append, List.nil_append, zB_go, zB_end, zB_no, zokv_i, zokv_r, zokv_n, eq_self]
  obtain ⟨h1, f1, f2⟩ := c59 (d + 53) (h := h) (w := 1) zW_1 (show k < 8 by omega) (show c < 10 by omega) z.1 r
  have k92 := f2 92 (by decide) (by decide) (by decide)
  obtain ⟨h2, g1, g2⟩ := c132 (d + 53) (h := h1) (show k < 8 by omega) (show c < 10 by omega) (by rw [k92]; exact z.1)
  rw [k92] at g1
  refine ⟨ztold (h 92) k c, h1, h2, ?_, ?_, Rel_same R fun a _ i1 i2 i3 i4 => by rw [g2 a (by omega) (by omega), f2 a i3 i1 i2]⟩
  · simp only [e13, q13_0, q13_1, q13_2, q13_5, q13_8, q13_9, q13_10, q13_12, q13_15, q13_18, q13_19, q13_20, q13_23, q13_24, q13_25, q13_28, q13_29, q13_30, q13_33, c12', c0, h12, e, f, gf_L0, f1, rc_W zW_1, ce_1, ce_2, ce_3, ce_4, ce_5, ce_6, cm_1, cm_2, cm_3, cm_4, cm_5, cm_6, rc_L, rc_M, zn1_0, if_true, if_false, ↓reduceIte, Option.bind_some, Option.toList_some, Option.toList_none, List.cons_append, List.nil_append, zB_go, zB_end, zB_no, zokv_i, zokv_r, zokv_n, eq_self]
  · simp only [e133, q133_0, q133_1, q133_2, q133_5, q133_8, q133_9, q133_10, q133_12, q133_15, q133_18, q133_19, q133_20, q133_21, q133_24, q133_27, q133_28, q133_29, q133_32, c111, c107, k92, m0, e', f, g1, ce_1, ce_2, ce_3, ce_4, ce_5, ce_6, cm_1, cm_2, cm_3, cm_4, cm_5, cm_6, rc_L, rc_M, zn1_0, if_true, if_false, ↓reduceIte, Option.bind_some, Option.toList_some, Option.toList_none, List.cons_append, List.nil_append, zB_go, zB_end, zB_no, zokv_i, zokv_r, zokv_n, eq_self]
end O61
