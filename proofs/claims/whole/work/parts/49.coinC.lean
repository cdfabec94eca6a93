/-! ===== a coin's week: the class ===== -/
section COC
variable (d : Nat)
theorem c71 {w N mk q : Nat} {s : Nat → Int32} {h : zH} (hw : zW w) (h0 : 0 < N) (hq : q < 100) (z : zJ s N mk) (h7 : s 7 = nI q) (hR : zRW w s h) : ∃ h', zCf zT znl (d + 6) 71 [.ref w] h = some (none, h') ∧ zRW w (zcw s) h' ∧ ∀ a, ¬ (w ≤ a ∧ a < w + 24) → h' a = h a := by
  have hN8 : N ≤ 8 := z.2.1
  have z5 : zJ (zc5 s) N mk := zJ_udx (by decide) (by decide) z
  obtain ⟨i, hi, ei⟩ := zcb h0 z5
  have s5 : zc5 s 5 = zcoin (s 5) := zud_at ..
  obtain ⟨m', a1, a2⟩ := zJ_cw h0 z
  rw [s5, z5.1] at ei
  have hn0 : ¬ (nI N = 0) := fun y => by
    have := congrArg Int32.toNatClampNeg y
    rw [nI_clamp (by omega)] at this
    exact absurd this (by show ¬ (N = 0); omega)
  have hnp : ¬ (nI N ≤ nI 0) := fun y => by
    have := (nI_leI (by omega) (by decide)).mp y
    omega
  have r11 : h w 11 = s 5 := hR.2.2.2.1.2.2.1
  have r12 : h w 12 = nI N := hR.2.2.2.1.2.2.2.1.trans z.1
  have hR5 : zRW w (zc5 s) (zup h w 11 (zcoin (s 5))) := zRW_own (Or.inr (Or.inr ⟨rfl, rfl⟩)) hR
  have k11 : zup h w 11 (zcoin (s 5)) w 11 = zcoin (s 5) := zup_at
  have k12 : zup h w 11 (zcoin (s 5)) w 12 = nI N := (zup_o (by decide)).trans r12
  have k9 : zup h w 11 (zcoin (s 5)) w 9 = zc5 s 1 := hR5.2.2.2.1.1
  have c4 := fun d => c64 d hw hR5 z5.2.2.1 z5.2.2.2.1
  have c6 := fun d => c66 d hw hR5 z5.1 hN8 z5.2.2.1 z5.2.2.2.1 z5.2.2.2.2.1 (Or.inr ⟨i, hi, rfl⟩)
  have hs : zup (zup h w 11 (zcoin (s 5))) w 9 (zc5 s 1) = zup h w 11 (zcoin (s 5)) := by rw [← k9]; exact zup_self ..
  have hx : zcm (zc5 s) = if zmayv (zc5 s) = nI 0 then zc5 s 1 else zgf (zc5 s) (nI i) := by
    unfold zcm; rw [s5, z5.1, ei]
  have hR6 : zRW w (zud (zc5 s) 1 (zcm (zc5 s))) (zup (zup h w 11 (zcoin (s 5))) w 9 (zcm (zc5 s))) := zRW_own (Or.inl ⟨rfl, rfl⟩) hR5
  have s7 : zud (zc5 s) 1 (zcm (zc5 s)) 7 = nI q := h7
  obtain ⟨h', f1, f2, f3⟩ := c69 d hw hq a1 s7 hR6
  have en : zshr (zcoin (s 5)) = ((zcoin (s 5)).toUInt32 >>> ((nI 8).toUInt32 &&& Int32.toUInt32 31)).toInt32 := rfl
  rw [en] at ei
  have ec : s 5 * nI 1103515245 + nI 12345 = zcoin (s 5) := rfl
  refine ⟨h', ?_, f2, fun a ha => by rw [f3 a (by omega) (by omega), zup_row_ne (by omega), zup_row_ne (by omega)]⟩
  rcases zmayv_01 (zc5 s) with y | y
  · have hz : zcm (zc5 s) = zc5 s 1 := by rw [hx, if_pos y]
    rw [hz, hs] at f1
    simp only [e71, q71_0, q71_1, q71_2, q71_5, q71_7, q71_8, q71_11, q71_12, q71_15, q71_16, q71_19, q71_22, q71_23, q71_26, q71_28, q71_29, q71_30, q71_33, q71_34, q71_37, q71_38, q71_39, q71_40, q71_43, q71_46, q71_47, q71_48, q71_51, q71_52, q71_55, gf_W11 hw, gf_W12 hw, pf_W11 hw, r11, ec, k11, k12, hnp, hn0, not_false_eq_true, ei, c4, y, f1, rc_W hw, if_true, if_false, Option.bind_some, Option.toList_some, Option.toList_none, List.cons_append, List.nil_append, zB_go, zB_end, zB_no, zokv_i, zokv_r, zokv_n, eq_self]
  · have hz : zcm (zc5 s) = zgf (zc5 s) (nI i) := by rw [hx, if_neg (by rw [y]; decide)]
    rw [hz] at f1
    simp only [e71, q71_0, q71_1, q71_2, q71_5, q71_7, q71_8, q71_11, q71_12, q71_15, q71_16, q71_19, q71_22, q71_23, q71_26, q71_28, q71_29, q71_30, q71_33, q71_34, q71_37, q71_38, q71_39, q71_40, q71_43, q71_46, q71_47, q71_48, q71_51, q71_52, q71_55, gf_W11 hw, gf_W12 hw, pf_W11 hw, r11, ec, k11, k12, hnp, hn0, not_false_eq_true, ei, c4, c6, y, f1, zn1_0, rc_W hw, if_true, if_false, Option.bind_some, Option.toList_some, Option.toList_none, List.cons_append, List.nil_append, zB_go, zB_end, zB_no, zokv_i, zokv_r, zokv_n, eq_self]
end COC
