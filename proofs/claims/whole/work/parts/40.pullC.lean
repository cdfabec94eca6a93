/-! ===== the market pulled, and its walk: the class ===== -/
section PC
variable (d : Nat)
theorem w65 {s : Nat → Int32} {w N mk : Nat} {h : zH} (hw : zW w) (hR : zRW w s h) (hN : s 0 = nI N) (hN8 : N ≤ 8) (hm : s 1 = nI mk) : ∀ (n j : Nat) (E S : Int32) (a4 : Value), j + n = N → ∃ b4, zXf zT znl (d + 1) 65 6 [.ref w, .int E, .int S, .int (nI j), a4] [] h = zXf zT znl (d + 1) 65 82 [.ref w, .int (zsm (zex s) (h (w + 21)) E j n), .int (zsm (zey s) (h (w + 21)) S j n), .int (nI N), b4] [] h := by
  have r12 : h w 12 = nI N := hR.2.2.2.1.2.2.2.1.trans hN
  have r9 : h w 9 = s 1 := hR.2.2.2.1.1
  have hp := hR.2.2.1
  intro n
  induction n with
  | zero =>
    intro j E S a4 hj
    have a : nI N ≤ nI j := by rw [show N = j by omega]; exact Int32.le_refl _
    refine ⟨a4, ?_⟩
    rw [q65_6]
    simp only [q65_7, q65_8, q65_11, gf_W12 hw, r12, a, zsm, if_true, Option.bind_some, Option.toList_some, Option.toList_none, List.cons_append, List.nil_append, zB_go, zB_end, zB_no, zokv_i, zokv_r, zokv_n, eq_self]
    rw [show j = N by omega]
  | succ n ih =>
    intro j E S a4 hj
    have a : ¬ (nI N ≤ nI j) := nI_ge (by omega) (by omega)
    have hj8 : j < 8 := by omega
    have x1 : zsgn (s (90 + 8 * j + 2) % nI 10 - s 1 % nI 10) = zex s j := rfl
    have x2 : zsgn (s (90 + 8 * j + 2) / nI 10 - s 1 / nI 10) = zey s j := rfl
    have q2 := hp j hj8 2 (by decide)
    obtain ⟨b4, e⟩ := ih (j + 1) (E + zex s j * h (w + 21) j) (S + zey s j * h (w + 21) j) (.int (s (90 + 8 * j + 2))) (by omega)
    refine ⟨b4, ?_⟩
    rw [q65_6]
    simp only [q65_7, q65_8, q65_11, q65_14, q65_15, q65_18, q65_19, q65_20, q65_21, q65_22, q65_24, q65_25, q65_26, q65_29, q65_30, q65_31, q65_33, q65_35, q65_36, q65_37, q65_40, q65_42, q65_43, q65_44, q65_47, q65_48, q65_49, q65_50, q65_51, q65_52, q65_55, q65_56, q65_57, q65_59, q65_61, q65_62, q65_63, q65_66, q65_68, q65_69, q65_70, q65_73, q65_74, q65_75, q65_76, q65_79, gf_W12 hw, gf_W2 hw, gf_W6 hw, gf_W9 hw, aal_W hw hj8, ald_row hw hj8 (show 2 < 8 by decide), ald_W21 hw hj8, q2, r9, r12, a, c2, x1, x2, zn10, not_false_eq_true, nI_add, if_true, if_false, Option.bind_some, Option.toList_some, Option.toList_none, List.cons_append, List.nil_append, zB_go, zB_end, zB_no, zokv_i, zokv_r, zokv_n, eq_self]
    rw [Int32.mul_comm (h (w + 21) j) (zex s j), Int32.mul_comm (h (w + 21) j) (zey s j)]
    exact e
theorem c65 {s : Nat → Int32} {w N mk : Nat} {h : zH} (hw : zW w) (hR : zRW w s h) (hN : s 0 = nI N) (hN8 : N ≤ 8) (hm : s 1 = nI mk) (hmk : mk < 80) (hP : ∀ k, k < 8 → zP s k) (hg : ∀ i, i < N → h (w + 21) i = zshout s i) : zCf zT znl (d + 2) 65 [.ref w] h = some (none, zup h w 9 (zpulled s)) := by
  obtain ⟨b4, e⟩ := w65 d hw hR hN hN8 hm N 0 (nI 0) (nI 0) .null (Nat.zero_add N)
  obtain ⟨c, hc, ec⟩ := zpst_c hN hN8 hm hmk hP
  have r9 : h w 9 = nI mk := hR.2.2.2.1.1.trans hm
  have hg1 : ∀ c, c < 80 → h (w + 1) c = s (10 + c) := hR.1
  have zN : zn s 0 = N := zn_of hN (by omega)
  have eE : zsm (zex s) (h (w + 21)) (nI 0) 0 N = zsE s := by
    unfold zsE; rw [zN]; exact zsm_congr N 0 _ fun i _ hi => ⟨rfl, hg i (by omega)⟩
  have eS : zsm (zey s) (h (w + 21)) (nI 0) 0 N = zsS s := by
    unfold zsS; rw [zN]; exact zsm_congr N 0 _ fun i _ hi => ⟨rfl, hg i (by omega)⟩
  rw [eE, eS] at e
  have hv : zpulled s = if zpst s = nI 0 then nI mk else if s (10 + c) = nI 1 then nI mk else nI c := by
    unfold zpulled
    rw [hm, ec, nI_clamp (by omega)]
  have hs : zup h w 9 (nI mk) = h := by rw [← r9]; exact zup_self ..
  have k1 : zpst s = nI 0 → c = mk := fun z => by
    rw [z, show nI mk + nI 0 = nI mk from Int32.add_zero _] at ec
    have := congrArg Int32.toNatClampNeg ec
    rw [nI_clamp (by omega), nI_clamp (by omega)] at this
    exact this.symm
  have fin : (if (if s (10 + c) = nI 1 then nI 1 else nI 0) = nI 0 then zup h w 9 (nI c) else h) = zup h w 9 (zpulled s) := by
    rw [hv]
    by_cases z0 : zpst s = nI 0
    · rw [if_pos z0, k1 z0, hs]; split <;> rfl
    · rw [if_neg z0]
      by_cases z1 : s (10 + c) = nI 1
      · rw [if_pos z1, if_pos z1, hs]; rfl
      · rw [if_neg z1, if_neg z1, if_pos rfl]
  simp only [e65, q65_0, q65_1, q65_2, q65_3, q65_4, q65_5, Option.bind_some, Option.toList_some, Option.toList_none, List.cons_append, List.nil_append, zB_go, zB_end, zB_no, zokv_i, zokv_r, zokv_n, eq_self]
  rw [e, ← fin]
  by_cases q : zabs (zsE s) < zabs (zsS s)
  · have ep : nI 10 * zsgn (zsS s) = zpst s := by unfold zpst; rw [if_pos q]
    simp only [q65_82, q65_83, q65_86, q65_87, q65_90, q65_93, q65_94, q65_97, q65_100, q65_102, q65_103, q65_106, q65_107, q65_108, q65_109, q65_110, q65_113, q65_114, q65_115, gf_W9 hw, r9, c204, c2, q, ep, ec, c54 _ _ hw hc, hg1 c hc, rc_W hw, if_true, if_false, Option.bind_some, Option.toList_some, Option.toList_none, List.cons_append, List.nil_append, zB_go, zB_end, zB_no, zokv_i, zokv_r, zokv_n, eq_self]
    by_cases z1 : s (10 + c) = nI 1
    · simp only [q65_118, q65_121, q65_122i, q65_122r, q65_123, q65_126, q65_127, q65_128, q65_131, z1, zn1_0, if_true, if_false, Option.bind_some, Option.toList_some, Option.toList_none, List.cons_append, List.nil_append, zB_go, zB_end, zB_no, zokv_i, zokv_r, zokv_n, eq_self]
    · simp only [q65_118, q65_121, q65_122i, q65_122r, q65_123, q65_126, q65_127, q65_128, q65_131, gf_W9 hw, pf_W9 hw, r9, ec, z1, if_true, if_false, Option.bind_some, Option.toList_some, Option.toList_none, List.cons_append, List.nil_append, zB_go, zB_end, zB_no, zokv_i, zokv_r, zokv_n, eq_self]
  · have ep : zsgn (zsE s) = zpst s := by unfold zpst; rw [if_neg q]
    simp only [q65_82, q65_83, q65_86, q65_87, q65_90, q65_93, q65_94, q65_97, q65_100, q65_102, q65_103, q65_106, q65_107, q65_108, q65_109, q65_110, q65_113, q65_114, q65_115, gf_W9 hw, r9, c204, c2, q, ep, ec, c54 _ _ hw hc, hg1 c hc, rc_W hw, if_true, if_false, Option.bind_some, Option.toList_some, Option.toList_none, List.cons_append, List.nil_append, zB_go, zB_end, zB_no, zokv_i, zokv_r, zokv_n, eq_self]
    by_cases z1 : s (10 + c) = nI 1
    · simp only [q65_118, q65_121, q65_122i, q65_122r, q65_123, q65_126, q65_127, q65_128, q65_131, z1, zn1_0, if_true, if_false, Option.bind_some, Option.toList_some, Option.toList_none, List.cons_append, List.nil_append, zB_go, zB_end, zB_no, zokv_i, zokv_r, zokv_n, eq_self]
    · simp only [q65_118, q65_121, q65_122i, q65_122r, q65_123, q65_126, q65_127, q65_128, q65_131, gf_W9 hw, pf_W9 hw, r9, ec, z1, if_true, if_false, Option.bind_some, Option.toList_some, Option.toList_none, List.cons_append, List.nil_append, zB_go, zB_end, zB_no, zokv_i, zokv_r, zokv_n, eq_self]
end PC
