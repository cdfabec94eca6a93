/-! ===== a week's end: the class ===== -/
section EC
variable (d : Nat)
theorem w69 {w N mk q : Nat} (hw : zW w) (hq : q < 100) : ∀ (n j : Nat) (s : Nat → Int32) (h : zH) (a2 a3 : Value), j + n = N → zJ s N mk → s 7 = nI q → zRW w s h → ∃ h' b2 b3, zXf zT znl (d + 4) 69 2 [.ref w, .int (nI j), a2, a3] [] h = zXf zT znl (d + 4) 69 66 [.ref w, .int (nI N), b2, b3] [] h' ∧ zRW w (zit zen1 s j n) h' ∧ ∀ a, ¬ (w + 4 ≤ a ∧ a < w + 12) → h' a = h a := by
  intro n
  induction n with
  | zero =>
    intro j s h a2 a3 hj z _ hR
    have a : nI N ≤ nI j := by rw [show N = j by omega]; exact Int32.le_refl _
    have r12 : h w 12 = nI N := hR.2.2.2.1.2.2.2.1.trans z.1
    refine ⟨h, a2, a3, ?_, hR, fun _ _ => rfl⟩
    rw [q69_2]
    simp only [q69_3, q69_4, q69_7, gf_W12 hw, r12, a, if_true, Option.bind_some, Option.toList_some, Option.toList_none, List.cons_append, List.nil_append, zB_go, zB_end, zB_no, zokv_i, zokv_r, zokv_n, eq_self]
    rw [show j = N by omega]
  | succ n ih =>
    intro j s h a2 a3 hj z h7 hR
    have hN8 : N ≤ 8 := z.2.1
    have a : ¬ (nI N ≤ nI j) := nI_ge (by omega) (by omega)
    have hj8 : j < 8 := by omega
    obtain ⟨kd, m, t, v, ho, g, hu, l0, l1, l2, l3, l4, l5, l7, p0, p1, p2, p3, p4, p5, p7⟩ := z.2.2.2.2.1 j hj8
    have ew : nworth g m t mk = zwo s j (zn s 1) := by
      unfold zwo
      rw [zn_of z.2.2.1 (by have := z.2.2.2.1; omega), zn_of p5 (by omega), zn_of p1 (by omega), zn_of p2 (by omega)]
    have r12 : h w 12 = nI N := hR.2.2.2.1.2.2.2.1.trans z.1
    have r9 : h w 9 = nI mk := hR.2.2.2.1.1.trans z.2.2.1
    have hp := hR.2.2.1 j hj8
    have l7' := (hR.2.1 1 (by decide)).trans h7
    have eg : zheld (s (90 + 8 * j + 6) + nI (zwo s j (zn s 1))) (-999999) (nI 999999) = zgold s j (nI (zwo s j (zn s 1))) := zheld_eq zlo_hi
    have ep : zmax (nI 0) (s (90 + 8 * j + 4) - nI q) = zhl (s (90 + 8 * j + 4) - s 7) (nI 0) (nI 99) := by rw [p4, h7]; exact zmax_0 ho l4 q hq
    have r1 : ∀ x, zup h (w + 4 + j) 6 x (w + 4 + j) 4 = s (90 + 8 * j + 4) := fun x => (zup_o (by decide)).trans (hp 4 (by decide))
    have r2 : ∀ x, zup h (w + 4 + j) 6 x (w + 2) 1 = nI q := fun x => (zup_ne (by omega)).trans l7'
    have hR2 : zRW w (zen1 s j) (zup (zup h (w + 4 + j) 6 (zgold s j (nI (zwo s j (zn s 1))))) (w + 4 + j) 4 (zhl (s (90 + 8 * j + 4) - s 7) (nI 0) (nI 99))) := zRW_pl hj8 (by decide) (zRW_pl hj8 (by decide) hR)
    obtain ⟨h', b2, b3, f1, f2, f3⟩ := ih (j + 1) (zen1 s j) _ (.ref (w + 4 + j)) (.int (s (90 + 8 * j + 6) + nI (zwo s j (zn s 1)))) (by omega) (zJ_en1 hj8 z) (by rw [zen1_lo (by decide)]; exact h7) hR2
    refine ⟨h', b2, b3, ?_, f2, fun b hb => by rw [f3 b hb, zup_row_ne (by omega), zup_row_ne (by omega)]⟩
    rw [← f1, q69_2]
    simp only [q69_0, q69_1, q69_3, q69_4, q69_7, q69_10, q69_11, q69_14, q69_15, q69_16, q69_17, q69_18, q69_20, q69_21, q69_22, q69_23, q69_26, q69_29, q69_30, q69_31, q69_32, q69_34, q69_35, q69_37, q69_39, q69_42, q69_43, q69_44, q69_45, q69_46, q69_47, q69_48, q69_49, q69_50, q69_53, q69_54, q69_55, q69_56, q69_59, q69_60, q69_63, gf_W12 hw, gf_W2 hw, gf_W9 hw, gf_W1 hw, aal_W hw hj8, ald_row hw hj8 (show 6 < 8 by decide), ald_row hw hj8 (show 4 < 8 by decide), ast_row hw hj8 (show 6 < 8 by decide), ast_row hw hj8 (show 4 < 8 by decide), ald_W2 hw (show 1 < 3 by decide), hp 6 (by decide), r12, r9, r1, r2, a, c3 _ _ hw hj8 ((hp 5 (by decide)).trans p5) ((hp 1 (by decide)).trans p1) ((hp 2 (by decide)).trans p2) l5 l1 l2 z.2.2.2.1, ew, c4, c205, eg, ep, nI_add, if_true, if_false, Option.bind_some, Option.toList_some, Option.toList_none, List.cons_append, List.nil_append, zB_go, zB_end, zB_no, zokv_i, zokv_r, zokv_n, eq_self]
theorem c69 {w N mk q : Nat} {s : Nat → Int32} {h : zH} (hw : zW w) (hq : q < 100) (z : zJ s N mk) (h7 : s 7 = nI q) (hR : zRW w s h) : ∃ h', zCf zT znl (d + 5) 69 [.ref w] h = some (none, h') ∧ zRW w (zends s) h' ∧ ∀ a, a ≠ w → ¬ (w + 4 ≤ a ∧ a < w + 12) → h' a = h a := by
  obtain ⟨h', b2, b3, f1, f2, f3⟩ := w69 d hw hq N 0 s h .null .null (Nat.zero_add N) z h7 hR
  have zN : zn s 0 = N := zn_of z.1 (by have := z.2.1; omega)
  have r10 : h' w 10 = zit zen1 s 0 N 2 := f2.2.2.2.1.2.1
  refine ⟨zup h' w 10 (zit zen1 s 0 N 2 + nI 1), ?_, ?_, fun a a1 a2 => by rw [zup_row_ne a1]; exact f3 a a2⟩
  · simp only [e69, q69_0, q69_1, Option.bind_some, Option.toList_some, Option.toList_none, List.cons_append, List.nil_append, zB_go, zB_end, zB_no, zokv_i, zokv_r, zokv_n, eq_self]
    rw [f1]
    simp only [q69_66, q69_67i, q69_67r, q69_68, q69_71, q69_72, q69_73, q69_76, gf_W10 hw, pf_W10 hw, r10, Option.bind_some, Option.toList_some, Option.toList_none, List.cons_append, List.nil_append, zB_go, zB_end, zB_no, zokv_i, zokv_r, zokv_n, eq_self]
  · unfold zends
    rw [zN]
    exact zRW_own (Or.inr (Or.inl ⟨rfl, rfl⟩)) f2
end EC
