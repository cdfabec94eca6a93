/-! ===== put, move ===== -/
theorem zix_c (x : Int32) {t : Nat} (ht : t < 1000) : zwi x (nI 0) (nI t - nI 1) = nI 0 ∨ ∃ k, k < t ∧ x = nI k ∧ zwi x (nI 0) (nI t - nI 1) = nI 1 := by
  rcases Nat.eq_zero_or_pos t with c | c
  · subst c
    left
    unfold zwi
    by_cases a : x < nI 0
    · exact if_pos a
    · rw [if_neg a]
      exact if_pos (Int32.lt_of_lt_of_le (show nI 0 - nI 1 < nI 0 by decide) (Int32.not_lt.mp a))
  · rw [pk_sub c]
    rcases zwi_c x (t - 1) (by omega) with e | ⟨k, k1, k2, k3⟩
    · exact Or.inl e
    · exact Or.inr ⟨k, by omega, k2, k3⟩
theorem nI_subT {L b : Nat} (hL : L ≤ 24) (hb : b < 2 ^ 31) : (nI L - nI b).toInt = (L : Int) - b := by
  rw [Int32.toInt_sub, nI_toInt (by omega), nI_toInt hb]
  exact Int.bmod_eq_of_le (by omega) (by omega)
theorem nI_sublt {L a b : Nat} (hL : L ≤ 24) (ha : a < 2 ^ 31) (hb : b < 2 ^ 31) : (nI L - nI b < nI a) ↔ L < a + b := by
  rw [Int32.lt_iff_toInt_lt, nI_subT hL hb, nI_toInt ha]
  omega
theorem nI_leL {a b : Nat} (ha : a < 2 ^ 31) (hb : b < 2 ^ 31) : nI a ≤ nI b ↔ a ≤ b := nI_leI ha hb
section O76
variable (d : Nat) {h : zH}
theorem c102 {a : Nat} (ha : zSt a) (h : zH) : zCf zT znl (d + 1) 102 [.ref a] h = some (some (.int (if h a 1 = nI 0 then nI 1 else nI 0)), h) := by
  by_cases q : h a 1 = nI 0
  · simp only [e102, q102_0, q102_1, q102_4, q102_7, q102_8, q102_11, q102_12, gf_S1 ha, q, z01_0, z01_1, zn1_0, if_true, if_false, ↓reduceIte, Option.bind_some, Option.toList_some, Option.toList_none, List.cons_append, List.nil_append, zB_go, zB_end, zB_no, zokv_i, zokv_r, zokv_n, eq_self]
  · simp only [e102, q102_0, q102_1, q102_4, q102_7, q102_8, q102_11, q102_12, gf_S1 ha, q, z01_0, z01_1, zn1_0, if_true, if_false, ↓reduceIte, Option.bind_some, Option.toList_some, Option.toList_none, List.cons_append, List.nil_append, zB_go, zB_end, zB_no, zokv_i, zokv_r, zokv_n, eq_self]
theorem o39_b {k b n : Nat} {v y w : Int32} (hk : k < 4) (S : zSh h) (R : Rel h) (hn : n ≤ 24) (s1 : h (82 + 2 * k) 2 = nI n) (s2 : h 103 k = nI n) (s3 : h (82 + 2 * k) 1 = nI b) (s4 : h 102 k = nI b) (b0 : ¬ nI b = nI 0) (cv : ∀ i, i < 24 → zCf zT znl (d + 59) 104 [.ref (82 + 2 * k), .int (nI i), .int w] h = some (none, zup h (82 + 2 * k + 1) i v)) (mv : (w <<< ((nI 32 - nI b) &&& 31)) >>> ((nI 32 - nI b) &&& 31) = v) : zOp (d + 60) 39 193 [.int (nI k), .int y, .int w] h := by
  have e : zwi (nI k) (nI 0) (nI 3) = nI 1 := zwi_in (by omega) (by decide)
  have ha := zSt_of k hk
  rcases zix_c y (show n < 1000 by omega) with f | ⟨i, hi, rfl, f⟩
  · exact zOp_k 1 R (by simp only [e39, q39_0, q39_1, q39_4, q39_13, q39_14, q39_17, q39_18, q39_19, q39_21, q39_23, q39_26, q39_35, q39_36, q39_37, q39_39, q39_42, q39_43, q39_44, q39_47, q39_50, q39_51, q39_52, q39_55, c37x, c0, e, f, gf_L6, aal_S hk, c102 _ ha, gf_S2 ha, s1, s3, b0, rc_S ha, ce_1, ce_2, ce_3, ce_4, ce_5, ce_6, cm_1, cm_2, cm_3, cm_4, cm_5, cm_6, rc_L, rc_M, zn1_0, if_true, if_false, ↓reduceIte, Option.bind_some, Option.toList_some, Option.toList_none, List.cons_append, List.nil_append, zB_go, zB_end, zB_no, zokv_i, zokv_r, zokv_n, eq_self]) fun g hg => by simp only [e193, q193_0, q193_1, q193_4, q193_13, q193_14, q193_17, q193_18, q193_19, q193_28, q193_29, q193_30, q193_31, q193_34, q193_35, q193_36, q193_37, q193_38, q193_41, q193_44, q193_45, q193_46, q193_49, c191, c107, e, f, gf_M18, gf_M19, ald_n102 hk, ald_n103 hk, hg 102 (by decide), hg 103 (by decide), s2, s4, b0, ce_1, ce_2, ce_3, ce_4, ce_5, ce_6, cm_1, cm_2, cm_3, cm_4, cm_5, cm_6, rc_L, rc_M, zn1_0, if_true, if_false, ↓reduceIte, Option.bind_some, Option.toList_some, Option.toList_none, List.cons_append, List.nil_append, zB_go, zB_end, zB_no, zokv_i, zokv_r, zokv_n, eq_self]
  · have i24 : i < 24 := by omega
    refine ⟨nI 1, zup h (82 + 2 * k + 1) i v, zup (zup h (82 + 2 * k + 1) i v) 104 (24 * k + i) v, ?_, ?_, Rel_sh R (zSh_upd (k := k) S ?_ (fun a g1 g2 g3 g4 => ?_) (fun j hj => ?_) (fun j hj => ?_) fun j hj => ?_) fun a g1 g2 => ?_⟩
    · simp only [e39, q39_0, q39_1, q39_4, q39_13, q39_14, q39_17, q39_18, q39_19, q39_21, q39_23, q39_26, q39_35, q39_36, q39_37, q39_39, q39_42, q39_43, q39_44, q39_47, q39_56, q39_58, q39_59, q39_60, q39_63, q39_64, c37x, c0, e, f, gf_L6, aal_S hk, c102 _ ha, gf_S2 ha, s1, s3, b0, cv i i24, rc_S ha, ce_1, ce_2, ce_3, ce_4, ce_5, ce_6, cm_1, cm_2, cm_3, cm_4, cm_5, cm_6, rc_L, rc_M, zn1_0, if_true, if_false, ↓reduceIte, Option.bind_some, Option.toList_some, Option.toList_none, List.cons_append, List.nil_append, zB_go, zB_end, zB_no, zokv_i, zokv_r, zokv_n, eq_self]
    · have k1 : ∀ a, 90 ≤ a → zup h (82 + 2 * k + 1) i v a = h a := fun a q => zup_row_ne (by omega)
      simp only [e193, q193_0, q193_1, q193_4, q193_13, q193_14, q193_17, q193_18, q193_19, q193_28, q193_29, q193_30, q193_31, q193_34, q193_35, q193_36, q193_37, q193_38, q193_41, q193_50, q193_52, q193_53, q193_56, q193_57, q193_58, q193_59, q193_61, q193_62, q193_65, q193_67, q193_68, q193_69, q193_70, q193_71, q193_72, q193_74, q193_75, q193_77, q193_78, q193_79, q193_80, c191, c107, e, f, gf_M18, gf_M19, gf_M20, ald_n102 hk, ald_n103 hk, k1 102 (by decide), k1 103 (by decide), s2, s4, b0, mv, pk_mul, nI_add, ast_n104 (show 24 * k + i < 96 by omega), ce_1, ce_2, ce_3, ce_4, ce_5, ce_6, cm_1, cm_2, cm_3, cm_4, cm_5, cm_6, rc_L, rc_M, zn1_0, if_true, if_false, ↓reduceIte, Option.bind_some, Option.toList_some, Option.toList_none, List.cons_append, List.nil_append, zB_go, zB_end, zB_no, zokv_i, zokv_r, zokv_n, eq_self]
    · obtain ⟨⟨n', hn', p1, p2⟩, p3, p4, p5⟩ := S k hk
      refine ⟨⟨n', hn', ?_, ?_⟩, ?_, ?_, fun j hj => ?_⟩
      · rw [zup_row_ne (by omega), zup_row_ne (by omega)]; exact p1
      · rw [zup_row_ne (by omega), zup_row_ne (by omega)]; exact p2
      · rw [zup_row_ne (by omega), zup_row_ne (by omega), zup_row_ne (by omega), zup_row_ne (by omega)]; exact p3
      · rw [zup_row_ne (by omega), zup_row_ne (by omega)]; exact p4
      · by_cases q : j = i
        · subst q
          rw [zup_row_ne (by omega), zup_at, zup_at]
        · rw [zup_row_ne (by omega), zup_o q, zup_o (by omega), zup_row_ne (by omega)]; exact p5 j hj
    · rw [zup_row_ne (by omega), zup_row_ne (by omega)]
    · rw [zup_row_ne (by omega), zup_row_ne (by omega)]
    · rw [zup_row_ne (by omega), zup_row_ne (by omega)]
    · rw [zup_o (by omega), zup_row_ne (by omega)]
    · rw [zup_row_ne (by omega), zup_row_ne (by omega)]
theorem o39 (R : Rel h) (x y w : Int32) : zOp (d + 60) 39 193 [.int x, .int y, .int w] h := by
  obtain ⟨-, -, -, -, -, S⟩ := id R
  rcases zwi_c x 3 (by decide) with e | ⟨k, hk, rfl, e⟩
  · exact zOp_k 1 R (by simp only [e39, q39_0, q39_1, q39_4, q39_7, q39_8, q39_9, q39_12, c37x, e, ce_1, ce_2, ce_3, ce_4, ce_5, ce_6, cm_1, cm_2, cm_3, cm_4, cm_5, cm_6, rc_L, rc_M, zn1_0, if_true, if_false, ↓reduceIte, Option.bind_some, Option.toList_some, Option.toList_none, List.cons_append, List.nil_append, zB_go, zB_end, zB_no, zokv_i, zokv_r, zokv_n, eq_self]) fun g hg => by simp only [e193, q193_0, q193_1, q193_4, q193_7, q193_8, q193_9, q193_12, c191, e, ce_1, ce_2, ce_3, ce_4, ce_5, ce_6, cm_1, cm_2, cm_3, cm_4, cm_5, cm_6, rc_L, rc_M, zn1_0, if_true, if_false, ↓reduceIte, Option.bind_some, Option.toList_some, Option.toList_none, List.cons_append, List.nil_append, zB_go, zB_end, zB_no, zokv_i, zokv_r, zokv_n, eq_self]
  have k4 : k < 4 := by omega
  have ha := zSt_of k k4
  obtain ⟨⟨n, hn, s1, s2⟩, s3, s4, -⟩ := S k k4
  rcases s4 with s4 | s4 | s4 | s4
  · rw [s4] at s3
    exact zOp_k 2 R (by simp only [e39, q39_0, q39_1, q39_4, q39_13, q39_14, q39_17, q39_18, q39_19, q39_21, q39_23, q39_26, q39_29, q39_30, q39_31, q39_34, c37x, e, gf_L6, aal_S k4, c102 _ ha, s3, rc_S ha, ce_1, ce_2, ce_3, ce_4, ce_5, ce_6, cm_1, cm_2, cm_3, cm_4, cm_5, cm_6, rc_L, rc_M, zn1_0, if_true, if_false, ↓reduceIte, Option.bind_some, Option.toList_some, Option.toList_none, List.cons_append, List.nil_append, zB_go, zB_end, zB_no, zokv_i, zokv_r, zokv_n, eq_self]) fun g hg => by simp only [e193, q193_0, q193_1, q193_4, q193_13, q193_14, q193_17, q193_18, q193_19, q193_22, q193_23, q193_24, q193_27, c191, e, gf_M18, ald_n102 k4, hg 102 (by decide), s4, ce_1, ce_2, ce_3, ce_4, ce_5, ce_6, cm_1, cm_2, cm_3, cm_4, cm_5, cm_6, rc_L, rc_M, zn1_0, if_true, if_false, ↓reduceIte, Option.bind_some, Option.toList_some, Option.toList_none, List.cons_append, List.nil_append, zB_go, zB_end, zB_no, zokv_i, zokv_r, zokv_n, eq_self]
  · rw [s4] at s3
    refine o39_b d (b := 8) (v := w.toInt8.toInt32) k4 S R hn s1 s2 s3 s4 (by decide) (fun i hi => ?_) (zsx8 w)
    simp only [e104, q104_0, q104_1, q104_4, q104_32, q104_33, q104_36, q104_37, q104_38, q104_39, q104_40, q104_43, q104_44, q104_47, q104_48, q104_49, q104_50, q104_51, q104_54, q104_55, q104_58, q104_59, q104_60, q104_61, gf_S0 ha, gf_S1 ha, s3, ast_S1 ha hi, zn1_0, if_true, if_false, ↓reduceIte, Option.bind_some, Option.toList_some, Option.toList_none, List.cons_append, List.nil_append, zB_go, zB_end, zB_no, zokv_i, zokv_r, zokv_n, eq_self]
  · rw [s4] at s3
    refine o39_b d (b := 16) (v := w.toInt16.toInt32) k4 S R hn s1 s2 s3 s4 (by decide) (fun i hi => ?_) (zsx16 w)
    simp (decide := true) only [e104, q104_0, q104_1, q104_4, q104_32, q104_33, q104_36, q104_37, q104_38, q104_39, q104_40, q104_43, q104_44, q104_47, q104_48, q104_49, q104_50, q104_51, q104_54, q104_55, q104_58, q104_59, q104_60, q104_61, gf_S0 ha, gf_S1 ha, s3, ast_S1 ha hi, zn1_0, if_true, if_false, ↓reduceIte, Option.bind_some, Option.toList_some, Option.toList_none, List.cons_append, List.nil_append, zB_go, zB_end, zB_no, zokv_i, zokv_r, zokv_n, eq_self]
  · rw [s4] at s3
    refine o39_b d (b := 32) (v := w) k4 S R hn s1 s2 s3 s4 (by decide) (fun i hi => ?_) (zsx32 w)
    simp (decide := true) only [e104, q104_0, q104_1, q104_4, q104_32, q104_33, q104_36, q104_37, q104_38, q104_39, q104_40, q104_43, q104_44, q104_47, q104_48, q104_49, q104_50, q104_51, q104_54, q104_55, q104_58, q104_59, q104_60, q104_61, gf_S0 ha, gf_S1 ha, s3, ast_S1 ha hi, zn1_0, if_true, if_false, ↓reduceIte, Option.bind_some, Option.toList_some, Option.toList_none, List.cons_append, List.nil_append, zB_go, zB_end, zB_no, zokv_i, zokv_r, zokv_n, eq_self]
/-- is there a run -/
theorem c105_n {a : Nat} (ha : zSt a) {i n : Int32} (hn : n < nI 0 ∨ i < nI 0) (h : zH) : zCf zT znl (d + 1) 105 [.ref a, .int i, .int n] h = some (some (.int (nI 0)), h) := by
  by_cases q : n < nI 0
  · simp only [e105, q105_0, q105_1, q105_30, q105_31, q, z01_0, zn1_0, if_true, if_false, ↓reduceIte, Option.bind_some, Option.toList_some, Option.toList_none, List.cons_append, List.nil_append, zB_go, zB_end, zB_no, zokv_i, zokv_r, zokv_n, eq_self]
  · have q2 : i < nI 0 := hn.resolve_left q
    simp only [e105, q105_0, q105_1, q105_4, q105_5, q105_30, q105_31, q, q2, z01_0, zn1_0, if_true, if_false, ↓reduceIte, Option.bind_some, Option.toList_some, Option.toList_none, List.cons_append, List.nil_append, zB_go, zB_end, zB_no, zokv_i, zokv_r, zokv_n, eq_self]
theorem c105_p {a L i n : Nat} (ha : zSt a) (hL : L ≤ 24) (hi : i < 2 ^ 31) (hn : n < 2 ^ 31) (h : zH) (s : h a 2 = nI L) : zCf zT znl (d + 1) 105 [.ref a, .int (nI i), .int (nI n)] h = some (some (.int (if i + n ≤ L then nI 1 else nI 0)), h) := by
  have q1 : ¬ nI n < nI 0 := nI_nlt (Nat.zero_le _) hn
  have q2 : ¬ nI i < nI 0 := nI_nlt (Nat.zero_le _) hi
  by_cases q3 : L < i
  · rw [if_neg (by omega)]
    simp only [e105, q105_0, q105_1, q105_4, q105_5, q105_8, q105_9, q105_10, q105_13, q105_30, q105_31, gf_S2 ha, s, q1, q2, nI_lt q3 hi, z01_0, zn1_0, if_true, if_false, ↓reduceIte, Option.bind_some, Option.toList_some, Option.toList_none, List.cons_append, List.nil_append, zB_go, zB_end, zB_no, zokv_i, zokv_r, zokv_n, eq_self]
  · have q3' : ¬ nI L < nI i := nI_nlt (by omega) (by omega)
    have sb := pk_sub (show i ≤ L by omega)
    by_cases q4 : i + n ≤ L
    · have q5 : ¬ nI (L - i) < nI n := nI_nlt (by omega) (by omega)
      rw [if_pos q4]
      simp only [e105, q105_0, q105_1, q105_4, q105_5, q105_8, q105_9, q105_10, q105_13, q105_16, q105_17, q105_18, q105_21, q105_22, q105_23, q105_26, q105_27, q105_31, gf_S2 ha, s, q1, q2, q3', sb, q5, z01_1, zn1_0, if_true, if_false, ↓reduceIte, Option.bind_some, Option.toList_some, Option.toList_none, List.cons_append, List.nil_append, zB_go, zB_end, zB_no, zokv_i, zokv_r, zokv_n, eq_self]
    · have q5 : nI (L - i) < nI n := nI_lt (by omega) hn
      rw [if_neg q4]
      simp only [e105, q105_0, q105_1, q105_4, q105_5, q105_8, q105_9, q105_10, q105_13, q105_16, q105_17, q105_18, q105_21, q105_22, q105_23, q105_30, q105_31, gf_S2 ha, s, q1, q2, q3', sb, q5, z01_0, zn1_0, if_true, if_false, ↓reduceIte, Option.bind_some, Option.toList_some, Option.toList_none, List.cons_append, List.nil_append, zB_go, zB_end, zB_no, zokv_i, zokv_r, zokv_n, eq_self]
theorem w194a {k a b : Nat} {x y z w v : Value} (hk : k < 4) (hab : a + b ≤ 24) : ∀ (m i : Nat) (h : zH), i + m = b → ∃ h', zXf zT znl d 194 115 [.ref 91, .int (nI k), .int (nI a), z, w, .int (nI b), .int (nI i)] [] h = zXf zT znl d 194 149 [.ref 91, .int (nI k), .int (nI a), z, w, .int (nI b), .int (nI b)] [] h' ∧ (∀ j, h' 105 j = if i ≤ j ∧ j < b then h 104 (24 * k + a + j) else h 105 j) ∧ ∀ x, x ≠ 105 → h' x = h x := by
  intro m
  induction m with
  | zero =>
    intro i h hi
    have le : nI b ≤ nI i := by rw [show i = b by omega]; exact Int32.le_refl _
    refine ⟨h, ?_, fun j => by rw [if_neg (by omega)], fun _ _ => rfl⟩
    rw [q194_115]
    simp only [q194_117, q194_119, le, zn1_0, if_true, if_false, ↓reduceIte, Option.bind_some, Option.toList_some, Option.toList_none, List.cons_append, List.nil_append, zB_go, zB_end, zB_no, zokv_i, zokv_r, zokv_n, eq_self]
    rw [show i = b by omega]
  | succ m ih =>
    intro i h hi
    have le : ¬ nI b ≤ nI i := nI_ge (by omega) (by omega)
    obtain ⟨h', p1, p2, p3⟩ := ih (i + 1) (zup h 105 i (h 104 (24 * k + a + i))) (by omega)
    refine ⟨h', ?_, fun j => ?_, fun x hx => by rw [p3 x hx, zup_row_ne hx]⟩
    · rw [← p1, q194_115]
      simp only [q194_117, q194_119, q194_122, q194_123, q194_126, q194_128, q194_129, q194_132, q194_134, q194_135, q194_136, q194_137, q194_138, q194_140, q194_141, q194_142, q194_143, q194_146, gf_M20, gf_M21, pk_mul, nI_add, ald_n104 (show 24 * k + a + i < 96 by omega), ast_n105 (show i < 24 by omega), le, zn1_0, if_true, if_false, ↓reduceIte, Option.bind_some, Option.toList_some, Option.toList_none, List.cons_append, List.nil_append, zB_go, zB_end, zB_no, zokv_i, zokv_r, zokv_n, eq_self]
    · rw [p2 j, zup_row_ne (by decide)]
      by_cases y : j = i
      · subst y
        rw [if_neg (by omega), if_pos (by omega), zup_at]
      · rw [zup_o y]
        by_cases w : i + 1 ≤ j ∧ j < b
        · rw [if_pos w, if_pos (by omega)]
        · rw [if_neg w, if_neg (by omega)]
theorem w194b {l c b : Nat} {x y : Value} (hl : l < 4) (hcb : c + b ≤ 24) : ∀ (m i : Nat) (h : zH), i + m = b → ∃ h', zXf zT znl d 194 152 [.ref 91, x, y, .int (nI l), .int (nI c), .int (nI b), .int (nI i)] [] h = some (some (.int (nI b)), h') ∧ (∀ j, h' 104 j = if 24 * l + c + i ≤ j ∧ j < 24 * l + c + b then h 105 (j - (24 * l + c)) else h 104 j) ∧ ∀ x, x ≠ 104 → h' x = h x := by
  intro m
  induction m with
  | zero =>
    intro i h hi
    have le : nI b ≤ nI i := by rw [show i = b by omega]; exact Int32.le_refl _
    refine ⟨h, ?_, fun j => by rw [if_neg (by omega)], fun _ _ => rfl⟩
    rw [q194_152]
    simp only [q194_154, q194_156, q194_187, q194_189, le, zn1_0, if_true, if_false, ↓reduceIte, Option.bind_some, Option.toList_some, Option.toList_none, List.cons_append, List.nil_append, zB_go, zB_end, zB_no, zokv_i, zokv_r, zokv_n, eq_self]
  | succ m ih =>
    intro i h hi
    have le : ¬ nI b ≤ nI i := nI_ge (by omega) (by omega)
    obtain ⟨h', p1, p2, p3⟩ := ih (i + 1) (zup h 104 (24 * l + c + i) (h 105 i)) (by omega)
    refine ⟨h', ?_, fun j => ?_, fun x hx => by rw [p3 x hx, zup_row_ne hx]⟩
    · rw [← p1, q194_152]
      simp only [q194_154, q194_156, q194_159, q194_160, q194_163, q194_165, q194_166, q194_167, q194_169, q194_170, q194_172, q194_173, q194_174, q194_177, q194_179, q194_180, q194_181, q194_184, gf_M20, gf_M21, pk_mul, nI_add, ald_n105 (show i < 24 by omega), ast_n104 (show 24 * l + c + i < 96 by omega), le, zn1_0, if_true, if_false, ↓reduceIte, Option.bind_some, Option.toList_some, Option.toList_none, List.cons_append, List.nil_append, zB_go, zB_end, zB_no, zokv_i, zokv_r, zokv_n, eq_self]
    · rw [p2 j, zup_row_ne (by decide)]
      by_cases y : j = 24 * l + c + i
      · subst y
        rw [if_neg (by omega), if_pos (by omega), zup_at]
        congr 1
        omega
      · rw [zup_o y]
        by_cases w : 24 * l + c + (i + 1) ≤ j ∧ j < 24 * l + c + b
        · rw [if_pos w, if_pos (by omega)]
        · rw [if_neg w, if_neg (by omega)]
end O76
