/-! ===== two cells changed; the seed, what is told, the numbers that wait ===== -/
theorem zTI_loc {ok : Int32 → Prop} {w a j i u : Nat} {s : Nat → Int32} {x : Int32} (L : zloc w a j i) (hu : u < 2) (t : zTI ok s u) : zTI ok (zud s i x) u := (zTI_al (fun i' h1 h2 => zud_ne (zloc_t L (by omega) (by omega))) hu t).2
theorem zOp_w2 {D kc km a j i a' j' i' N mk : Nat} {as : List Value} {h : zH} {x v v' : Int32} (R : Rel h) (c : zCf zT znl D kc (.ref 0 :: as) h = some (some (.int x), zup (zup h a j v) a' j' v')) (m : ∀ g, (∀ b, b ≠ a → b ≠ a' → g b = h b) → zCf zT znl D km (.ref 91 :: as) g = some (some (.int x), zup (zup g 92 i v) 92 i' v')) (L : zloc 1 a j i) (L' : zloc 1 a' j' i') (z : zI (zud (zud (h 92) i v) i' v') N mk) : zOp D kc km as h := by
  obtain ⟨⟨N', mk', z'⟩, r, -⟩ := id R
  have B := zloc_b L
  have B' := zloc_b L'
  refine ⟨_, _, _, c, m _ fun b hb hb' => by rw [zup_row_ne hb', zup_row_ne hb], ?_⟩
  have e : zup (zup (zup (zup h a j v) a' j' v') 92 i v) 92 i' v' 92 = zud (zud (h 92) i v) i' v' := by rw [zup_ud, zup_ud, zup_row_ne (by omega), zup_row_ne (by omega)]
  refine Rel_row (N := N) (mk := mk) R (by rw [e]; exact z) ?_ fun b hb => by rw [zup_row_ne (by omega), zup_row_ne (by omega), zup_row_ne (by omega), zup_row_ne (by omega)]
  rw [e]
  have t0 := z'.1.2.2.2.2.2.1
  have t1 := z'.1.2.2.2.2.2.2
  exact zRW_keep (zRW_ud L' (zTI_loc L (by decide) t0) (zTI_loc L (by decide) t1) (zRW_ud L t0 t1 r)) fun b h1 h2 _ _ _ _ => by rw [zup_row_ne (by omega), zup_row_ne (by omega)]
section O62
variable (d : Nat) {h : zH}
theorem o23 (R : Rel h) (x : Int32) : zOp (d + 60) 23 163 [.int x] h := by
  obtain ⟨⟨N, mk, z⟩, r, -⟩ := id R
  obtain ⟨a1, a2, a3, ⟨b1, b2, b3, b4, b5, b6⟩, a5, a6, a7, a8⟩ := id r
  refine zOp_w (x := h 92 5) (a := 1) (j := 11) (i := 5) (v := x) R ?_ (fun g hg => ?_) (by unfold zloc; omega) (zI_w (zJ_udx (by omega) (by omega) z.1) z (fun y => absurd y (by omega)) (fun y => absurd y (by omega)) (fun y => absurd y (by omega)) (fun y => absurd y (by omega)))
  · simp only [e23, q23_0, q23_1, q23_4, q23_7, q23_8, q23_9, q23_12, q23_13, q23_16, q23_17, gf_L0, gf_W11 zW_1, pf_W11 zW_1, b3, Option.bind_some, Option.toList_some, Option.toList_none, List.cons_append, List.nil_append, zB_go, zB_end, zB_no, zokv_i, zokv_r, zokv_n, eq_self]
  · simp only [e163, q163_0, q163_1, q163_4, q163_5, q163_6, q163_7, q163_8, q163_11, q163_12, q163_13, q163_14, q163_15, hg 92 (by decide), gf_M0, ald_n92 (show 5 < 488 by decide), ast_n92 (show 5 < 488 by decide), Option.bind_some, Option.toList_some, Option.toList_none, List.cons_append, List.nil_append, zB_go, zB_end, zB_no, zokv_i, zokv_r, zokv_n, eq_self]
theorem o45 (R : Rel h) (x : Int32) : zOp (d + 60) 45 200 [.int x] h := by
  obtain ⟨⟨N, mk, z⟩, r, -⟩ := id R
  obtain ⟨a1, a2, a3, ⟨b1, b2, b3, b4, b5, b6⟩, a5, a6, a7, a8⟩ := id r
  obtain ⟨v, hv, e4⟩ := z.2.2.2.1
  have h14 : h 1 14 = nI v := b6.trans e4
  by_cases v24 : v = 24
  · subst v24
    have n1 : ¬ nI 24 < nI 24 := Int32.lt_irrefl
    exact zOp_k 4 R (by simp only [e45, q45_0, q45_1, q45_4, q45_7, q45_9, q45_12, q45_13, q45_14, q45_17, q45_18, q45_19, q45_22, q45_25, q45_26, q45_29, q45_32, q45_33, q45_34, q45_35, q45_38i, q45_38r, q45_39, q45_42, q45_43, q45_44, q45_47, q45_48, q45_51, q45_54, gf_L0, gf_W14 zW_1, h14, n1, ce_1, ce_2, ce_3, ce_4, ce_5, ce_6, cm_1, cm_2, cm_3, cm_4, cm_5, cm_6, rc_L, rc_M, zn1_0, if_true, if_false, ↓reduceIte, Option.bind_some, Option.toList_some, Option.toList_none, List.cons_append, List.nil_append, zB_go, zB_end, zB_no, zokv_i, zokv_r, zokv_n, eq_self]) fun g hg => by simp only [e200, q200_0, q200_1, q200_4, q200_5, q200_6, q200_8, q200_11, q200_12, q200_13, q200_16, q200_17, q200_18, q200_21, q200_24, q200_25, q200_28, q200_29, q200_30, q200_31, q200_32, q200_33, q200_34, q200_37, q200_38, q200_39, q200_40, q200_41, q200_42, q200_43, q200_44, q200_47, q200_48, q200_49, gf_M0, ald_n92 (show 4 < 488 by decide), hg 92 (by decide), e4, ce_1, ce_2, ce_3, ce_4, ce_5, ce_6, cm_1, cm_2, cm_3, cm_4, cm_5, cm_6, rc_L, rc_M, zn1_0, if_true, if_false, ↓reduceIte, Option.bind_some, Option.toList_some, Option.toList_none, List.cons_append, List.nil_append, zB_go, zB_end, zB_no, zokv_i, zokv_r, zokv_n, eq_self]
  · have hv24 : v < 24 := by omega
    have n1 := nI_lt hv24 (by decide : 24 < 2 ^ 31)
    have n2 := nI_ne v24 (by omega) (by decide)
    have k1 : ∀ (g : zH) j x, zup g (1 + 23) j x 1 = g 1 := fun g j x => zup_row_ne (by decide)
    have k2 : ∀ (g : zH) x, zup g 92 (464 + v) x 92 4 = g 92 4 := fun g x => zup_o (by omega)
    refine zOp_w2 (x := nI (v + 1)) (a := 1 + 23) (j := v) (i := 464 + v) (v := x) (a' := 1) (j' := 14) (i' := 4) (v' := nI (v + 1)) R ?_ (fun g hg => ?_) (by unfold zloc; omega) (by unfold zloc; omega) (zI_w (zJ_udx (by omega) (by omega) (zJ_udh (by omega) z.1)) (zI_w (zJ_udh (by omega) z.1) z (fun y => absurd y (by omega)) (fun y => absurd y (by omega)) (fun y => absurd y (by omega)) (fun _ y => absurd y (by omega))) (fun y => absurd y (by omega)) (fun y => absurd y (by omega)) (fun y => ⟨v + 1, by omega, rfl⟩) (fun y => absurd y (by omega)))
    · simp only [e45, q45_0, q45_1, q45_4, q45_7, q45_9, q45_12, q45_13, q45_14, q45_17, q45_18, q45_19, q45_22, q45_25, q45_26, q45_29, q45_32, q45_33, q45_34, q45_35, q45_38i, q45_38r, q45_39, q45_42, q45_43, q45_44, q45_47, q45_48, q45_51, q45_54, gf_L0, gf_W14 zW_1, pf_W14 zW_1, gf_W8 zW_1, h14, n1, ast_W23 zW_1 hv24, k1, nI_add, zup_at, ce_1, ce_2, ce_3, ce_4, ce_5, ce_6, cm_1, cm_2, cm_3, cm_4, cm_5, cm_6, rc_L, rc_M, zn1_0, if_true, if_false, ↓reduceIte, Option.bind_some, Option.toList_some, Option.toList_none, List.cons_append, List.nil_append, zB_go, zB_end, zB_no, zokv_i, zokv_r, zokv_n, eq_self]
    · have g4 : g 92 4 = nI v := by rw [hg 92 (by decide) (by decide)]; exact e4
      simp only [e200, q200_0, q200_1, q200_4, q200_5, q200_6, q200_8, q200_11, q200_12, q200_13, q200_16, q200_17, q200_18, q200_21, q200_24, q200_25, q200_28, q200_29, q200_30, q200_31, q200_32, q200_33, q200_34, q200_37, q200_38, q200_39, q200_40, q200_41, q200_42, q200_43, q200_44, q200_47, q200_48, q200_49, gf_M0, ald_n92 (show 4 < 488 by decide), ast_n92 (show 4 < 488 by decide), g4, n2, nI_add, ast_n92 (show 464 + v < 488 by omega), k2, zup_at, ce_1, ce_2, ce_3, ce_4, ce_5, ce_6, cm_1, cm_2, cm_3, cm_4, cm_5, cm_6, rc_L, rc_M, zn1_0, if_true, if_false, ↓reduceIte, Option.bind_some, Option.toList_some, Option.toList_none, List.cons_append, List.nil_append, zB_go, zB_end, zB_no, zokv_i, zokv_r, zokv_n, eq_self]
theorem o48 (R : Rel h) (x : Int32) : zOp (d + 60) 48 203 [.int x] h := by
  obtain ⟨-, -, e, -⟩ := id R
  rcases zwi_c1 x 6 (by decide) with f | ⟨k, k1, k6, rfl, f⟩
  · exact zOp_k 1 R (by simp only [e48, q48_0, q48_1, q48_2, q48_4, q48_7, q48_10, q48_11, q48_12, q48_15, q48_16, q48_17, q48_20, q48_21, q48_22, c0, f, ce_1, ce_2, ce_3, ce_4, ce_5, ce_6, cm_1, cm_2, cm_3, cm_4, cm_5, cm_6, rc_L, rc_M, zn1_0, if_true, if_false, ↓reduceIte, Option.bind_some, Option.toList_some, Option.toList_none, List.cons_append, List.nil_append, zB_go, zB_end, zB_no, zokv_i, zokv_r, zokv_n, eq_self]) fun g hg => by simp only [e203, q203_0, q203_1, q203_2, q203_4, q203_7, q203_10, q203_11, q203_14, q203_15, q203_16, q203_19, q203_20, q203_21, q203_24, c107, f, ce_1, ce_2, ce_3, ce_4, ce_5, ce_6, cm_1, cm_2, cm_3, cm_4, cm_5, cm_6, rc_L, rc_M, zn1_0, if_true, if_false, ↓reduceIte, Option.bind_some, Option.toList_some, Option.toList_none, List.cons_append, List.nil_append, zB_go, zB_end, zB_no, zokv_i, zokv_r, zokv_n, eq_self]
  · have ek := e k (by omega)
    exact zOp_p (x := h 95 k) R (by simp only [e48, q48_0, q48_1, q48_2, q48_4, q48_7, q48_10, q48_11, q48_12, q48_15, q48_16, q48_17, q48_20, q48_21, q48_22, c0, f, gf_L7, ald_n90 (show k < 7 by omega), ek, ce_1, ce_2, ce_3, ce_4, ce_5, ce_6, cm_1, cm_2, cm_3, cm_4, cm_5, cm_6, rc_L, rc_M, zn1_0, if_true, if_false, ↓reduceIte, Option.bind_some, Option.toList_some, Option.toList_none, List.cons_append, List.nil_append, zB_go, zB_end, zB_no, zokv_i, zokv_r, zokv_n, eq_self]) (by simp only [e203, q203_0, q203_1, q203_2, q203_4, q203_7, q203_10, q203_11, q203_14, q203_15, q203_16, q203_19, q203_20, q203_21, q203_24, c107, f, gf_M4, ald_n95 (show k < 7 by omega), ce_1, ce_2, ce_3, ce_4, ce_5, ce_6, cm_1, cm_2, cm_3, cm_4, cm_5, cm_6, rc_L, rc_M, zn1_0, if_true, if_false, ↓reduceIte, Option.bind_some, Option.toList_some, Option.toList_none, List.cons_append, List.nil_append, zB_go, zB_end, zB_no, zokv_i, zokv_r, zokv_n, eq_self])
theorem o36 (R : Rel h) (x : Int32) : zOp (d + 60) 36 190 [.int x] h := by
  obtain ⟨-, -, -, -, ⟨t, ht, t1, t2, t3⟩, -⟩ := id R
  have w : zwi x (nI 0) (nI t - nI 1) = nI 0 ∨ ∃ k, k < t ∧ x = nI k ∧ zwi x (nI 0) (nI t - nI 1) = nI 1 := by
    rcases Nat.eq_zero_or_pos t with c | c
    · subst c
      left
      unfold zwi
      by_cases a : x < nI 0
      · exact if_pos a
      · rw [if_neg a]
        exact if_pos (Int32.lt_of_lt_of_le (show nI 0 - nI 1 < nI 0 by decide) (Int32.not_lt.mp a))
    · rw [pk_sub c]
      rcases zwi_c x (t - 1) (by omega) with e | ⟨k, k1, k2, k3⟩
      · exact Or.inl e
      · exact Or.inr ⟨k, by omega, k2, k3⟩
  rcases w with f | ⟨k, hk, rfl, f⟩
  · exact zOp_k 2 R (by simp only [e36, q36_0, q36_1, q36_2, q36_3, q36_6, q36_9, q36_10, q36_11, q36_14, q36_17, q36_18, q36_19, q36_22, q36_23, q36_24, q36_27, q36_30, q36_31, q36_32, c0, gf_L4, gf_P1, t1, f, ce_1, ce_2, ce_3, ce_4, ce_5, ce_6, cm_1, cm_2, cm_3, cm_4, cm_5, cm_6, rc_L, rc_M, zn1_0, if_true, if_false, ↓reduceIte, Option.bind_some, Option.toList_some, Option.toList_none, List.cons_append, List.nil_append, zB_go, zB_end, zB_no, zokv_i, zokv_r, zokv_n, eq_self]) fun g hg => by simp only [e190, q190_0, q190_1, q190_2, q190_3, q190_6, q190_7, q190_8, q190_11, q190_14, q190_15, q190_18, q190_19, q190_20, q190_23, q190_24, q190_25, q190_28, c107, gf_M15, hg 91 (by decide), t2, f, ce_1, ce_2, ce_3, ce_4, ce_5, ce_6, cm_1, cm_2, cm_3, cm_4, cm_5, cm_6, rc_L, rc_M, zn1_0, if_true, if_false, ↓reduceIte, Option.bind_some, Option.toList_some, Option.toList_none, List.cons_append, List.nil_append, zB_go, zB_end, zB_no, zokv_i, zokv_r, zokv_n, eq_self]
  · have ek := t3 k hk
    exact zOp_p (x := h 101 k) R (by simp only [e36, q36_0, q36_1, q36_2, q36_3, q36_6, q36_9, q36_10, q36_11, q36_14, q36_17, q36_18, q36_19, q36_22, q36_23, q36_24, q36_27, q36_30, q36_31, q36_32, c0, gf_L4, gf_P0, gf_P1, t1, f, ald_n80 (show k < 30 by omega), ek, ce_1, ce_2, ce_3, ce_4, ce_5, ce_6, cm_1, cm_2, cm_3, cm_4, cm_5, cm_6, rc_L, rc_M, zn1_0, if_true, if_false, ↓reduceIte, Option.bind_some, Option.toList_some, Option.toList_none, List.cons_append, List.nil_append, zB_go, zB_end, zB_no, zokv_i, zokv_r, zokv_n, eq_self]) (by simp only [e190, q190_0, q190_1, q190_2, q190_3, q190_6, q190_7, q190_8, q190_11, q190_14, q190_15, q190_18, q190_19, q190_20, q190_23, q190_24, q190_25, q190_28, c107, gf_M14, gf_M15, t2, f, ald_n101 (show k < 30 by omega), ce_1, ce_2, ce_3, ce_4, ce_5, ce_6, cm_1, cm_2, cm_3, cm_4, cm_5, cm_6, rc_L, rc_M, zn1_0, if_true, if_false, ↓reduceIte, Option.bind_some, Option.toList_some, Option.toList_none, List.cons_append, List.nil_append, zB_go, zB_end, zB_no, zokv_i, zokv_r, zokv_n, eq_self])
end O62
