/-! ===== voices ===== -/
section O79
variable (d : Nat) {h : zH}
theorem w41 {L N k B : Nat} (hk : k < 4) (hL : L ≤ 24) (hB : B = min N L) {f : Nat → Int32} {mk : Nat} : ∀ (m i : Nat) (s : Nat → Int32) (h : zH), i + m = B → zI s N mk → zRW 1 s h → h (82 + 2 * k) 2 = nI L → (∀ i, i < 24 → h (82 + 2 * k + 1) i = f i) → ∃ h', zXf zT znl (d + 1) 41 35 [.ref 0, .int (nI k), .ref (82 + 2 * k), .int (nI i)] [] h = some (some (.int (nI (zvn f m i))), h') ∧ zI (zvs f m i s) N mk ∧ zRW 1 (zvs f m i s) h' ∧ ∀ x, ¬ (1 ≤ x ∧ x < 25) → h' x = h x := by
  have ha := zSt_of k hk
  intro m
  induction m with
  | zero =>
    intro i s h hi z r hl hf
    have hN8 := z.1.2.1
    have h12 : h 1 12 = nI N := r.2.2.2.1.2.2.2.1.trans z.1.1
    refine ⟨h, ?_, z, r, fun _ _ => rfl⟩
    rw [q41_35]
    unfold zvn
    by_cases e : N ≤ i
    · have le := nI_le e (show i < 2 ^ 31 by omega)
      simp only [q41_36, q41_37, q41_40, q41_43, q41_92, q41_93, gf_L0, gf_W12 zW_1, h12, le, zn1_0, if_true, if_false, ↓reduceIte, Option.bind_some, Option.toList_some, Option.toList_none, List.cons_append, List.nil_append, zB_go, zB_end, zB_no, zokv_i, zokv_r, zokv_n, eq_self]
    · have le : ¬ nI N ≤ nI i := nI_ge (by omega) (by omega)
      have le2 : nI L ≤ nI i := nI_le (by omega) (by omega)
      simp only [q41_36, q41_37, q41_40, q41_43, q41_46, q41_47, q41_48, q41_51, q41_92, q41_93, gf_L0, gf_W12 zW_1, gf_S2 ha, h12, hl, le, le2, zn1_0, if_true, if_false, ↓reduceIte, Option.bind_some, Option.toList_some, Option.toList_none, List.cons_append, List.nil_append, zB_go, zB_end, zB_no, zokv_i, zokv_r, zokv_n, eq_self]
  | succ m ih =>
    intro i s h hi z r hl hf
    have hN8 := z.1.2.1
    have h12 : h 1 12 = nI N := r.2.2.2.1.2.2.2.1.trans z.1.1
    have le : ¬ nI N ≤ nI i := nI_ge (by omega) (by omega)
    have le2 : ¬ nI L ≤ nI i := nI_ge (by omega) (by omega)
    have i8 : i < 8 := by omega
    have g1 := hf i (by omega)
    unfold zvn zvs
    rcases zwi_c (f i) 99 (by decide) with e | ⟨v, hv, ev, e⟩
    · have ne : ¬ nI 0 = nI 1 := by decide
      rw [e, if_neg ne, if_neg ne]
      refine ⟨h, ?_, z, r, fun _ _ => rfl⟩
      rw [q41_35]
      simp only [q41_36, q41_37, q41_40, q41_43, q41_46, q41_47, q41_48, q41_51, q41_54, q41_55, q41_58, q41_59, q41_60, q41_61, q41_63, q41_66, q41_92, q41_93, c0, gf_L0, gf_W12 zW_1, gf_S0 ha, gf_S2 ha, ald_S1 ha (show i < 24 by omega), h12, hl, le, le2, g1, e, zn1_0, if_true, if_false, ↓reduceIte, Option.bind_some, Option.toList_some, Option.toList_none, List.cons_append, List.nil_append, zB_go, zB_end, zB_no, zokv_i, zokv_r, zokv_n, eq_self]
    · rw [e, if_pos rfl, if_pos rfl]
      obtain ⟨z', r'⟩ := zIR_p (k := i) (j := 3) (x := f i) i8 (by decide) (by rw [ev]; exact zpok1 (by decide) (by omega)) ⟨z, r⟩
      obtain ⟨h', p1, p2, p3, p4⟩ := ih (i + 1) _ (zup h (1 + 4 + i) 3 (f i)) (by omega) z' r' (by rw [zup_row_ne (by omega)]; exact hl) fun j hj => by rw [zup_row_ne (by omega)]; exact hf j hj
      refine ⟨h', ?_, p2, p3, fun x hx => by rw [p4 x hx, zup_row_ne (by omega)]⟩
      rw [← p1, q41_35]
      simp only [q41_36, q41_37, q41_40, q41_43, q41_46, q41_47, q41_48, q41_51, q41_54, q41_55, q41_58, q41_59, q41_60, q41_61, q41_63, q41_66, q41_69, q41_70, q41_73, q41_76, q41_77, q41_78, q41_79, q41_80, q41_83, q41_84, q41_85, q41_86, q41_89, c0, gf_L0, gf_W2 zW_1, gf_W12 zW_1, gf_S0 ha, gf_S2 ha, aal_W zW_1 i8, ast_row zW_1 i8 (show 3 < 8 by decide), ald_S1 ha (show i < 24 by omega), h12, hl, le, le2, g1, e, nI_add, zn1_0, if_true, if_false, ↓reduceIte, Option.bind_some, Option.toList_some, Option.toList_none, List.cons_append, List.nil_append, zB_go, zB_end, zB_no, zokv_i, zokv_r, zokv_n, eq_self]
theorem w196 {L N k B : Nat} (hk : k < 4) (hL : L ≤ 24) (hB : B = min N L) {f : Nat → Int32} {mk : Nat} {y : Int32} : ∀ (m i : Nat) (g : zH), i + m = B → zI (g 92) N mk → g 103 k = nI L → (∀ i, i < 24 → g 104 (24 * k + i) = f i) → ∃ g', zXf zT znl (d + 2) 196 18 [.ref 91, .int (nI k), .int y, .int (nI i)] [] g = some (some (.int (nI (zvn f m i))), g') ∧ g' 92 = zvs f m i (g 92) ∧ ∀ x, x ≠ 92 → g' x = g x := by
  intro m
  induction m with
  | zero =>
    intro i g hi z hl hf
    have hN8 := z.1.2.1
    refine ⟨g, ?_, rfl, fun _ _ => rfl⟩
    rw [q196_18]
    unfold zvn
    by_cases e : L ≤ i
    · have le := nI_le e (show i < 2 ^ 31 by omega)
      simp only [q196_19, q196_20, q196_23, q196_24, q196_25, q196_87, q196_88, gf_M19, ald_n103 hk, hl, le, zn1_0, if_true, if_false, ↓reduceIte, Option.bind_some, Option.toList_some, Option.toList_none, List.cons_append, List.nil_append, zB_go, zB_end, zB_no, zokv_i, zokv_r, zokv_n, eq_self]
    · have le : ¬ nI L ≤ nI i := nI_ge (by omega) (by omega)
      have iN : i = N := by omega
      subst iN
      have o := zpl_out hN8
      simp only [q196_19, q196_20, q196_23, q196_24, q196_25, q196_28, q196_29, q196_30, q196_33, q196_87, q196_88, c111, gf_M19, ald_n103 hk, z.1.1, o, hl, le, rc_M, zn1_0, if_true, if_false, ↓reduceIte, Option.bind_some, Option.toList_some, Option.toList_none, List.cons_append, List.nil_append, zB_go, zB_end, zB_no, zokv_i, zokv_r, zokv_n, eq_self]
  | succ m ih =>
    intro i g hi z hl hf
    have hN8 := z.1.2.1
    have le : ¬ nI L ≤ nI i := nI_ge (by omega) (by omega)
    have i8 : i < 8 := by omega
    have g1 := hf i (by omega)
    have o := zpl_in hN8 (show i < N by omega)
    unfold zvn zvs
    rcases zwi_c (f i) 99 (by decide) with e | ⟨v, hv, ev, e⟩
    · have ne : ¬ nI 0 = nI 1 := by decide
      rw [e, if_neg ne, if_neg ne]
      refine ⟨g, ?_, rfl, fun _ _ => rfl⟩
      rw [q196_18]
      simp only [q196_19, q196_20, q196_23, q196_24, q196_25, q196_28, q196_29, q196_30, q196_33, q196_36, q196_37, q196_40, q196_42, q196_43, q196_44, q196_45, q196_46, q196_47, q196_48, q196_50, q196_53, q196_87, q196_88, c111, c107, gf_M19, gf_M20, ald_n103 hk, pk_mul, nI_add, ald_n104 (show 24 * k + i < 96 by omega), z.1.1, o, hl, le, g1, e, rc_M, zn1_0, if_true, if_false, ↓reduceIte, Option.bind_some, Option.toList_some, Option.toList_none, List.cons_append, List.nil_append, zB_go, zB_end, zB_no, zokv_i, zokv_r, zokv_n, eq_self]
    · rw [e, if_pos rfl, if_pos rfl]
      have z' : zI (zud (g 92) (90 + 8 * i + 3) (f i)) N mk := zI_w (zJ_udp i8 (by decide) (by rw [ev]; exact zpok1 (by decide) (by omega)) z.1) z (fun y => absurd y (by omega)) (fun y => absurd y (by omega)) (fun y => absurd y (by omega)) (fun y => absurd y (by omega))
      have e92 : zup g 92 (90 + 8 * i + 3) (f i) 92 = zud (g 92) (90 + 8 * i + 3) (f i) := zup_ud ..
      obtain ⟨g', p1, p2, p3⟩ := ih (i + 1) (zup g 92 (90 + 8 * i + 3) (f i)) (by omega) (by rw [e92]; exact z') (by rw [zup_row_ne (by decide)]; exact hl) fun j hj => by rw [zup_row_ne (by decide)]; exact hf j hj
      rw [e92] at p2
      refine ⟨g', ?_, p2, fun x hx => by rw [p3 x hx, zup_row_ne hx]⟩
      rw [← p1, q196_18]
      simp only [q196_19, q196_20, q196_23, q196_24, q196_25, q196_28, q196_29, q196_30, q196_33, q196_36, q196_37, q196_40, q196_42, q196_43, q196_44, q196_45, q196_46, q196_47, q196_48, q196_50, q196_53, q196_56, q196_57, q196_60, q196_62, q196_64, q196_65, q196_66, q196_67, q196_68, q196_69, q196_70, q196_73, q196_75, q196_76, q196_77, q196_78, q196_79, q196_80, q196_81, q196_84, c111, c107, gf_M0, gf_M19, gf_M20, ald_n103 hk, pk_mul, nI_add, ald_n104 (show 24 * k + i < 96 by omega), ast_n92 (show 90 + 8 * i + 3 < 488 by omega), z.1.1, o, hl, le, g1, e, rc_M, zn1_0, if_true, if_false, ↓reduceIte, Option.bind_some, Option.toList_some, Option.toList_none, List.cons_append, List.nil_append, zB_go, zB_end, zB_no, zokv_i, zokv_r, zokv_n, eq_self]
theorem o41 (R : Rel h) (x : Int32) : zOp (d + 60) 41 196 [.int x] h := by
  obtain ⟨⟨N, mk, z⟩, r, -, -, -, S⟩ := id R
  have hN8 := z.1.2.1
  rcases zwi_c x 3 (by decide) with e | ⟨k, hk, rfl, e⟩
  · have l := fun d g => c195_n d e g
    have n1 : ¬ nI 1 ≤ nI 0 := by decide
    exact zOp_k 1 R (by simp only [e41, q41_0, q41_1, q41_4, q41_7, q41_8, q41_9, q41_12, c37x, e, ce_1, ce_2, ce_3, ce_4, ce_5, ce_6, cm_1, cm_2, cm_3, cm_4, cm_5, cm_6, rc_L, rc_M, zn1_0, if_true, if_false, ↓reduceIte, Option.bind_some, Option.toList_some, Option.toList_none, List.cons_append, List.nil_append, zB_go, zB_end, zB_no, zokv_i, zokv_r, zokv_n, eq_self]) fun g hg => by simp only [e196, q196_0, q196_1, q196_2, q196_5, q196_6, q196_7, q196_10, q196_11, q196_12, q196_15, l, n1, ce_1, ce_2, ce_3, ce_4, ce_5, ce_6, cm_1, cm_2, cm_3, cm_4, cm_5, cm_6, rc_L, rc_M, zn1_0, if_true, if_false, ↓reduceIte, Option.bind_some, Option.toList_some, Option.toList_none, List.cons_append, List.nil_append, zB_go, zB_end, zB_no, zokv_i, zokv_r, zokv_n, eq_self]
  have k4 : k < 4 := by omega
  have ha := zSt_of k k4
  obtain ⟨⟨L, hL, s1, s2⟩, s3, -, s5⟩ := S k k4
  by_cases q : h 102 k = nI 0
  · have n1 : ¬ nI 2 ≤ nI 0 := by decide
    exact zOp_k 2 R (by simp only [e41, q41_0, q41_1, q41_4, q41_13, q41_14, q41_17, q41_18, q41_19, q41_20, q41_21, q41_24, q41_27, q41_28, q41_29, q41_32, c37x, e, gf_L6, aal_S k4, c102 _ ha, s3, q, rc_S ha, ce_1, ce_2, ce_3, ce_4, ce_5, ce_6, cm_1, cm_2, cm_3, cm_4, cm_5, cm_6, rc_L, rc_M, zn1_0, if_true, if_false, ↓reduceIte, Option.bind_some, Option.toList_some, Option.toList_none, List.cons_append, List.nil_append, zB_go, zB_end, zB_no, zokv_i, zokv_r, zokv_n, eq_self]) fun g hg => by simp only [e196, q196_0, q196_1, q196_2, q196_5, q196_6, q196_7, q196_10, q196_11, q196_12, q196_15, c195 _ k4, hg 102 (by decide), q, n1, ce_1, ce_2, ce_3, ce_4, ce_5, ce_6, cm_1, cm_2, cm_3, cm_4, cm_5, cm_6, rc_L, rc_M, zn1_0, if_true, if_false, ↓reduceIte, Option.bind_some, Option.toList_some, Option.toList_none, List.cons_append, List.nil_append, zB_go, zB_end, zB_no, zokv_i, zokv_r, zokv_n, eq_self]
  have n0 : nI 0 ≤ nI 0 := Int32.le_refl _
  obtain ⟨h1, p1, p2, p3, p4⟩ := w41 (d + 58) (L := L) (f := fun i => h 104 (24 * k + i)) (mk := mk) k4 hL (B := min N L) rfl (min N L) 0 (h 92) h (by omega) z r s1 s5
  have k92 : h1 92 = h 92 := p4 92 (by omega)
  obtain ⟨h2, q1, q2, q3⟩ := w196 (d + 57) (L := L) (f := fun i => h 104 (24 * k + i)) (mk := mk) (y := nI 0) k4 hL (B := min N L) rfl (min N L) 0 h1 (by omega) (by rw [k92]; exact z) (by rw [p4 103 (by omega)]; exact s2) fun i hi => by rw [p4 104 (by omega)]
  rw [k92] at q2
  refine ⟨nI (zvn (fun i => h 104 (24 * k + i)) (min N L) 0), h1, h2, ?_, ?_, zRow_week R p2 p3 p4 q2 fun a ha _ _ _ => q3 a ha⟩
  · rw [← p1]
    simp only [e41, q41_0, q41_1, q41_4, q41_13, q41_14, q41_17, q41_18, q41_19, q41_20, q41_21, q41_24, q41_33, q41_34, c37x, e, gf_L6, aal_S k4, c102 _ ha, s3, q, rc_S ha, ce_1, ce_2, ce_3, ce_4, ce_5, ce_6, cm_1, cm_2, cm_3, cm_4, cm_5, cm_6, rc_L, rc_M, zn1_0, if_true, if_false, ↓reduceIte, Option.bind_some, Option.toList_some, Option.toList_none, List.cons_append, List.nil_append, zB_go, zB_end, zB_no, zokv_i, zokv_r, zokv_n, eq_self]
  · rw [← q1]
    simp only [e196, q196_0, q196_1, q196_2, q196_5, q196_6, q196_7, q196_16, q196_17, c195 _ k4, p4 102 (by omega), q, n0, ce_1, ce_2, ce_3, ce_4, ce_5, ce_6, cm_1, cm_2, cm_3, cm_4, cm_5, cm_6, rc_L, rc_M, zn1_0, if_true, if_false, ↓reduceIte, Option.bind_some, Option.toList_some, Option.toList_none, List.cons_append, List.nil_append, zB_go, zB_end, zB_no, zokv_i, zokv_r, zokv_n, eq_self]
end O79
