/-! ===== ways in a World; worth ===== -/
def nworth (g m hm c : Nat) : Nat := if c = hm ∧ 50 ≤ m then 0 else g - 2 * nfar hm c
theorem wo_1 : ∀ g, g < 100 → ∀ D, D < 17 → (nI g - nI 2 * nI D < nI 0 ↔ g < 2 * D) ∧ (¬ g < 2 * D → nI g - nI 2 * nI D = nI (g - 2 * D)) ∧ zmax (nI 0) (nI g - nI 2 * nI D) = nI (g - 2 * D) := by decide +kernel
theorem nworth_lt {g m hm c : Nat} (hg : g < 100) : nworth g m hm c < 100 := by
  unfold nworth
  split <;> omega
section WAY3
variable (d : Nat) (h : zH)
theorem c54 {w c : Nat} (hw : zW w) (hc : c < 80) : zCf zT znl (d + 1) 54 [.ref w, .int (nI c)] h = some (some (.int (if h (w + 1) c = nI 1 then nI 1 else nI 0)), h) := by
  have a : ¬ (nI c < nI 0) := nI_nlt (Nat.zero_le _) (by omega)
  have b : ¬ (nI 80 ≤ nI c) := nI_ge hc (by decide)
  simp only [e54, q54_0, q54_1, q54_4, q54_5, q54_7, q54_10, q54_11, q54_14, q54_15, q54_16, q54_17, q54_20, q54_21, q54_24, q54_25, gf_W0 hw, ald_W1 hw hc, a, b, Int32.not_lt, Int32.not_le, z01_0, z01_1, zpi, if_true, if_false, Option.bind_some, Option.toList_some, Option.toList_none, List.cons_append, List.nil_append, zB_go, zB_end, zB_no, zokv_i, zokv_r, zokv_n, eq_self]
theorem c55 {w f t : Nat} {s : Nat → Int32} (hw : zW w) (hg : ∀ c, c < 80 → h (w + 1) c = s (10 + c)) (hf : f < 80) (ht : t < 80) (o : Bool) : zCf zT znl (d + 2) 55 [.ref w, .int (nI f), .int (nI t), .int (if o = true then nI 1 else nI 0)] h = some (some (.int (nI (ngo s f t o))), h) := by
  have r1 := wy_r f hf t ht
  have r2 := wy_c f hf t ht
  have w1 := wy_f f hf t ht
  have w2 : (zabs (nI t % nI 10 - nI f % nI 10) < zabs (nI t / nI 10 - nI f / nI 10)) = ¬ (nrf f t = true) := propext (by rw [← w1, Int32.not_le])
  have l1 : nr1 f t < 80 := by have := nw_lt f hf t ht; unfold nw1 nw2 at this; split at this <;> omega
  have l2 : nc1 f t < 80 := by have := nw_lt f hf t ht; unfold nw1 nw2 at this; split at this <;> omega
  have k1 : (nI (nr1 f t) = nI f) = (nr1 f t = f) := propext (nI_eq (by omega) (by omega))
  have k2 : (nI (nc1 f t) = nI f) = (nc1 f t = f) := propext (nI_eq (by omega) (by omega))
  have g1 := hg _ l1
  have g2 := hg _ l2
  have m1 := fun d => c54 d h hw l1
  have m2 := fun d => c54 d h hw l2
  rw [g1] at m1
  rw [g2] at m2
  by_cases hb : nrf f t = true
  · cases o
    · simp only [e55, q55_0, q55_1, q55_3, q55_4, q55_5, q55_7, q55_8, q55_9, q55_11, q55_12, q55_14, q55_15, q55_16, q55_18, q55_19, q55_20, q55_22, q55_23, q55_25, q55_28, q55_29, q55_31, q55_32, q55_34, q55_36, q55_39, q55_40, q55_41, q55_43, q55_45, q55_48, q55_50, q55_53, q55_56, q55_57, q55_60, q55_61, q55_63, q55_65, q55_68, q55_70, q55_73, q55_75, q55_77, q55_79, q55_82, q55_84, q55_87, q55_89, q55_91, q55_93, q55_94, q55_97, q55_98, q55_101, q55_102, q55_104, q55_107, q55_110, q55_112, q55_113, q55_115, q55_116, q55_119, q55_120, q55_123, q55_124, q55_126, q55_129, q55_132, q55_134, q55_135, q55_136, zn10, zn1_0, not_false_eq_true, c204, c2, m1, m2, rc_W hw, w2, hb, r1, r2, k1, k2, zb0, z01_0, z01_1, zpi, if_true, if_false, not_true_eq_false, Bool.false_eq_true, Option.bind_some, Option.toList_some, Option.toList_none, List.cons_append, List.nil_append, zB_go, zB_end, zB_no, zokv_i, zokv_r, zokv_n, eq_self]
      unfold ngo nw1 nw2
      by_cases e1 : nr1 f t = f <;> by_cases e2 : nc1 f t = f <;> by_cases g1 : s (10 + nr1 f t) = nI 1 <;> by_cases g2 : s (10 + nc1 f t) = nI 1 <;> simp [hb, e1, e2, g1, g2]
    · simp only [e55, q55_0, q55_1, q55_3, q55_4, q55_5, q55_7, q55_8, q55_9, q55_11, q55_12, q55_14, q55_15, q55_16, q55_18, q55_19, q55_20, q55_22, q55_23, q55_25, q55_28, q55_29, q55_31, q55_32, q55_34, q55_36, q55_39, q55_40, q55_41, q55_43, q55_45, q55_48, q55_50, q55_53, q55_56, q55_57, q55_60, q55_61, q55_63, q55_65, q55_68, q55_70, q55_73, q55_75, q55_77, q55_79, q55_82, q55_84, q55_87, q55_89, q55_91, q55_93, q55_94, q55_97, q55_98, q55_101, q55_102, q55_104, q55_107, q55_110, q55_112, q55_113, q55_115, q55_116, q55_119, q55_120, q55_123, q55_124, q55_126, q55_129, q55_132, q55_134, q55_135, q55_136, zn10, zn1_0, not_false_eq_true, c204, c2, m1, m2, rc_W hw, w2, hb, r1, r2, k1, k2, zb0, z01_0, z01_1, zpi, if_true, if_false, not_true_eq_false, Bool.false_eq_true, Option.bind_some, Option.toList_some, Option.toList_none, List.cons_append, List.nil_append, zB_go, zB_end, zB_no, zokv_i, zokv_r, zokv_n, eq_self]
      unfold ngo nw1 nw2
      by_cases e1 : nr1 f t = f <;> by_cases e2 : nc1 f t = f <;> by_cases g1 : s (10 + nr1 f t) = nI 1 <;> by_cases g2 : s (10 + nc1 f t) = nI 1 <;> simp [hb, e1, e2, g1, g2]
  · cases o
    · simp only [e55, q55_0, q55_1, q55_3, q55_4, q55_5, q55_7, q55_8, q55_9, q55_11, q55_12, q55_14, q55_15, q55_16, q55_18, q55_19, q55_20, q55_22, q55_23, q55_25, q55_28, q55_29, q55_31, q55_32, q55_34, q55_36, q55_39, q55_40, q55_41, q55_43, q55_45, q55_48, q55_50, q55_53, q55_56, q55_57, q55_60, q55_61, q55_63, q55_65, q55_68, q55_70, q55_73, q55_75, q55_77, q55_79, q55_82, q55_84, q55_87, q55_89, q55_91, q55_93, q55_94, q55_97, q55_98, q55_101, q55_102, q55_104, q55_107, q55_110, q55_112, q55_113, q55_115, q55_116, q55_119, q55_120, q55_123, q55_124, q55_126, q55_129, q55_132, q55_134, q55_135, q55_136, zn10, zn1_0, not_false_eq_true, c204, c2, m1, m2, rc_W hw, w2, hb, r1, r2, k1, k2, zb0, z01_0, z01_1, zpi, if_true, if_false, not_true_eq_false, Bool.false_eq_true, Option.bind_some, Option.toList_some, Option.toList_none, List.cons_append, List.nil_append, zB_go, zB_end, zB_no, zokv_i, zokv_r, zokv_n, eq_self]
      unfold ngo nw1 nw2
      by_cases e1 : nr1 f t = f <;> by_cases e2 : nc1 f t = f <;> by_cases g1 : s (10 + nr1 f t) = nI 1 <;> by_cases g2 : s (10 + nc1 f t) = nI 1 <;> simp [hb, e1, e2, g1, g2]
    · simp only [e55, q55_0, q55_1, q55_3, q55_4, q55_5, q55_7, q55_8, q55_9, q55_11, q55_12, q55_14, q55_15, q55_16, q55_18, q55_19, q55_20, q55_22, q55_23, q55_25, q55_28, q55_29, q55_31, q55_32, q55_34, q55_36, q55_39, q55_40, q55_41, q55_43, q55_45, q55_48, q55_50, q55_53, q55_56, q55_57, q55_60, q55_61, q55_63, q55_65, q55_68, q55_70, q55_73, q55_75, q55_77, q55_79, q55_82, q55_84, q55_87, q55_89, q55_91, q55_93, q55_94, q55_97, q55_98, q55_101, q55_102, q55_104, q55_107, q55_110, q55_112, q55_113, q55_115, q55_116, q55_119, q55_120, q55_123, q55_124, q55_126, q55_129, q55_132, q55_134, q55_135, q55_136, zn10, zn1_0, not_false_eq_true, c204, c2, m1, m2, rc_W hw, w2, hb, r1, r2, k1, k2, zb0, z01_0, z01_1, zpi, if_true, if_false, not_true_eq_false, Bool.false_eq_true, Option.bind_some, Option.toList_some, Option.toList_none, List.cons_append, List.nil_append, zB_go, zB_end, zB_no, zokv_i, zokv_r, zokv_n, eq_self]
      unfold ngo nw1 nw2
      by_cases e1 : nr1 f t = f <;> by_cases e2 : nc1 f t = f <;> by_cases g1 : s (10 + nr1 f t) = nI 1 <;> by_cases g2 : s (10 + nc1 f t) = nI 1 <;> simp [hb, e1, e2, g1, g2]
theorem c128 {k g m hm c : Nat} (hk : k < 8) (hg : h 92 (90 + 8 * k + 5) = nI g) (hm1 : h 92 (90 + 8 * k + 1) = nI m) (hh : h 92 (90 + 8 * k + 2) = nI hm) (lg : g < 100) (lm : m < 100) (lh : hm < 80) (lc : c < 80) : zCf zT znl (d + 3) 128 [.ref 91, .int (nI k), .int (nI c)] h = some (some (.int (nI (nworth g m hm c))), h) := by
  have q := wo_1 g lg (nfar hm c) (nfar_lt hm lh c lc)
  have e1 : zdis (nI c) (nI hm) = nI (nfar hm c) := by rw [zdis_n c lc hm lh, nfar_comm]
  have e2 : (nI c = nI hm) = (c = hm) := propext (nI_eq (by omega) (by omega))
  have e3 : (nI m ≤ nI 49) = (m ≤ 49) := propext (nI_leI (by omega) (by decide))
  simp only [e128, q128_0, q128_1, q128_2, q128_3, q128_6, q128_7, q128_8, q128_9, q128_10, q128_11, q128_14, q128_17, q128_18, q128_19, q128_20, q128_21, q128_24, q128_25, q128_26, q128_27, q128_28, q128_31, q128_34, q128_35, q128_36, q128_37, q128_40, q128_42, q128_45, q128_46, q128_49, q128_50, c112 _ _ hk (show 5 < 8 by decide), c112 _ _ hk (show 2 < 8 by decide), c112 _ _ hk (show 1 < 8 by decide), hg, hm1, hh, c114, e1, e2, e3, rc_M, Option.bind_some, Option.toList_some, Option.toList_none, List.cons_append, List.nil_append, zB_go, zB_end, zB_no, zokv_i, zokv_r, zokv_n, eq_self]
  have z : nI 0 = nI (nworth g m hm c) ∨ ¬ (g < 2 * nfar hm c) := by
    by_cases hx : g < 2 * nfar hm c
    · left
      unfold nworth
      split
      · rfl
      · rw [show g - 2 * nfar hm c = 0 by omega]
    · exact Or.inr hx
  by_cases hx : g < 2 * nfar hm c
  · rw [if_pos (q.1.mpr hx)]
    rcases z with z | z
    · rw [z]
    · exact absurd hx z
  · rw [if_neg (fun y => hx (q.1.mp y)), q.2.1 hx]
    unfold nworth
    by_cases h1 : c = hm <;> by_cases h2 : m ≤ 49 <;> simp [h1, h2, show (50 ≤ m) = ¬ (m ≤ 49) from propext (by omega)]
theorem c3 {w k g m hm c : Nat} (hw : zW w) (hk : k < 8) (hg : h (w + 4 + k) 5 = nI g) (hm1 : h (w + 4 + k) 1 = nI m) (hh : h (w + 4 + k) 2 = nI hm) (lg : g < 100) (lm : m < 100) (lh : hm < 80) (lc : c < 80) : zCf zT znl (d + 3) 3 [.ref (w + 4 + k), .int (nI c)] h = some (some (.int (nI (nworth g m hm c))), h) := by
  have q := wo_1 g lg (nfar hm c) (nfar_lt hm lh c lc)
  have e1 : zdis (nI hm) (nI c) = nI (nfar hm c) := zdis_n hm lh c lc
  simp only [e3, q3_0, q3_1, q3_2, q3_3, q3_4, q3_7, q3_8, q3_9, q3_10, q3_12, q3_15, q3_16, q3_17, q3_18, q3_19, q3_20, q3_21, q3_22, q3_23, q3_24, q3_25, q3_26, q3_29, q3_30, q3_31, q3_34, ald_row hw hk (show 5 < 8 by decide), ald_row hw hk (show 2 < 8 by decide), ald_row hw hk (show 1 < 8 by decide), hg, hm1, hh, c1, c205, e1, q.2.2, Option.bind_some, Option.toList_some, Option.toList_none, List.cons_append, List.nil_append, zB_go, zB_end, zB_no, zokv_i, zokv_r, zokv_n, eq_self]
  have e2 : (nI hm = nI c) = (c = hm) := propext ((nI_eq (by omega) (by omega)).trans eq_comm)
  have e4 : (nI m < nI 50) = (m < 50) := propext (nI_ltI (by omega) (by decide))
  simp only [e2, e4]
  unfold nworth
  by_cases h1 : c = hm <;> by_cases h2 : m < 50 <;> simp [h1, h2, show (50 ≤ m) = ¬ (m < 50) from propext (by omega)]
end WAY3
