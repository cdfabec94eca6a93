/-! ===== the shouts paid ===== -/
def zps1 (g : Nat → Int32) (s : Nat → Int32) (j : Nat) : Nat → Int32 := if g j ≤ nI 0 then s else zud (zud s (90 + 8 * j + 6) (zgold s j (-(zcost s j (g j))))) (90 + 8 * j + 4) (zhl (s (90 + 8 * j + 4) + g j / nI 2) (nI 0) (nI 99))
theorem zJ_ps1 {g s : Nat → Int32} {N mk j : Nat} (hj : j < 8) (z : zJ s N mk) : zJ (zps1 g s j) N mk := by
  unfold zps1
  split
  · exact z
  · obtain ⟨x, hx, ex⟩ := zhl_99 (s (90 + 8 * j + 4) + g j / nI 2)
    rw [ex]
    exact zJ_ud4 hj hx (zJ_ud6 hj z)
theorem zps1_lo {g s : Nat → Int32} {j i : Nat} (hi : i < 90) : zps1 g s j i = s i := by
  unfold zps1
  split
  · rfl
  · rw [zud_ne (by omega), zud_ne (by omega)]
theorem zit_lo {f : (Nat → Int32) → Nat → Nat → Int32} {i : Nat} (hf : ∀ s j, f s j i = s i) : ∀ (n j : Nat) (s : Nat → Int32), zit f s j n i = s i
  | 0, _, _ => rfl
  | n + 1, j, s => (zit_lo hf n (j + 1) (f s j)).trans (hf s j)
theorem zmin_99 : ∀ p, p < 100 → ∀ x, x < 100 → zmin (nI 99) (nI p + nI x / nI 2) = zhl (nI p + nI x / nI 2) (nI 0) (nI 99) := by decide +kernel
section PS
variable (d : Nat)
theorem w157 {g : Nat → Int32} {N mk : Nat} {m1 : Int32} : ∀ (n j : Nat) (h : zH), j + n = N → zJ (h 92) N mk → (∀ i, i < N → h 99 i = g i) → ∃ h', zXf zT znl (d + 4) 157 79 [.ref 91, .int m1, .int (nI j)] [] h = zXf zT znl (d + 4) 157 156 [.ref 91, .int m1, .int (nI N)] [] h' ∧ h' 92 = zit (zps1 g) (h 92) j n ∧ ∀ a, a ≠ 92 → a ≠ 97 → a ≠ 98 → h' a = h a := by
  intro n
  induction n with
  | zero =>
    intro j h hj z hg
    have a : nI N ≤ nI j := by rw [show N = j by omega]; exact Int32.le_refl _
    refine ⟨h, ?_, rfl, fun _ _ _ _ => rfl⟩
    rw [q157_79]
    simp only [q157_80, q157_81, q157_84, q157_85, q157_86, gf_M0, ald_n92 (show 0 < 488 by decide), z.1, a, if_true, Option.bind_some, Option.toList_some, Option.toList_none, List.cons_append, List.nil_append, zB_go, zB_end, zB_no, zokv_i, zokv_r, zokv_n, eq_self]
    rw [show j = N by omega]
  | succ n ih =>
    intro j h hj z hg
    have hN8 : N ≤ 8 := z.2.1
    have a : ¬ (nI N ≤ nI j) := nI_ge (by omega) (by omega)
    have hj8 : j < 8 := by omega
    by_cases q : g j ≤ nI 0
    · obtain ⟨h', f1, f2, f3⟩ := ih (j + 1) h (by omega) z hg
      refine ⟨h', ?_, by rw [f2]; show zit (zps1 g) (h 92) (j + 1) n = zit (zps1 g) (zps1 g (h 92) j) (j + 1) n; unfold zps1; rw [if_pos q], f3⟩
      rw [← f1, q157_79]
      simp only [q157_80, q157_81, q157_84, q157_85, q157_86, q157_89, q157_90, q157_93, q157_94, q157_95, q157_150, q157_153, gf_M0, gf_M12, ald_n92 (show 0 < 488 by decide), ald_n99 hj8, hg j (by omega), z.1, a, q, nI_add, if_true, if_false, Option.bind_some, Option.toList_some, Option.toList_none, List.cons_append, List.nil_append, zB_go, zB_end, zB_no, zokv_i, zokv_r, zokv_n, eq_self]
    · obtain ⟨h1, e1, e2⟩ := c129 (d + 1) h (k := j) (lo := g j) hj8 z.2.2.2.2.2.2
      have k92 : h1 92 = h 92 := e2 92 (by decide) (by decide)
      have k99 : h1 99 = h 99 := e2 99 (by decide) (by decide)
      have r1 : ∀ x, zup h1 92 (90 + 8 * j + 6) x 92 = zud (h 92) (90 + 8 * j + 6) x := fun x => by rw [zup_ud, k92]
      have r2 : ∀ x, zud (h 92) (90 + 8 * j + 6) x (90 + 8 * j + 4) = h 92 (90 + 8 * j + 4) := fun x => zud_ne (by omega)
      have r3 : ∀ x, zup h1 92 (90 + 8 * j + 6) x 99 = h 99 := fun x => by rw [zup_row_ne (by decide), k99]
      have e92 : zup (zup h1 92 (90 + 8 * j + 6) (zgold (h 92) j (-(zcost (h 92) j (g j))))) 92 (90 + 8 * j + 4) (zhl (h 92 (90 + 8 * j + 4) + g j / nI 2) (nI 0) (nI 99)) 92 = zps1 g (h 92) j := by
        rw [zup_ud, r1]; unfold zps1; rw [if_neg q]
      obtain ⟨h', f1, f2, f3⟩ := ih (j + 1) (zup (zup h1 92 (90 + 8 * j + 6) (zgold (h 92) j (-(zcost (h 92) j (g j))))) 92 (90 + 8 * j + 4) (zhl (h 92 (90 + 8 * j + 4) + g j / nI 2) (nI 0) (nI 99))) (by omega) (by rw [e92]; exact zJ_ps1 hj8 z) (fun i hi => by rw [zup_row_ne (by decide), zup_row_ne (by decide), k99]; exact hg i hi)
      refine ⟨h', ?_, by rw [f2, e92]; rfl, fun b b1 b2 b3 => by rw [f3 b b1 b2 b3, zup_row_ne b1, zup_row_ne b1]; exact e2 b b2 b3⟩
      have c5 := fun d => c155 d (h := h1) (k := j) (x := -(zcost (h 92) j (g j))) hj8
      rw [k92] at c5
      rw [← f1, q157_79]
      simp only [q157_80, q157_81, q157_84, q157_85, q157_86, q157_89, q157_90, q157_93, q157_94, q157_95, q157_98, q157_99, q157_100, q157_101, q157_102, q157_103, q157_106, q157_107, q157_108, q157_111, q157_112, q157_115, q157_116, q157_119, q157_121, q157_123, q157_124, q157_125, q157_126, q157_127, q157_128, q157_129, q157_130, q157_131, q157_134, q157_135, q157_138, q157_139, q157_140, q157_141, q157_142, q157_143, q157_144, q157_146, q157_149, q157_150, q157_153, gf_M0, gf_M12, ald_n92 (show 0 < 488 by decide), ald_n99 hj8, hg j (by omega), z.1, a, q, e1, c5, r1, r2, r3, c112 _ _ hj8 (show 4 < 8 by decide), c108z, zn2, not_false_eq_true, pk_mul, nI_add, ast_n92 (show 90 + 8 * j + 4 < 488 by omega), rc_M, if_true, if_false, Option.bind_some, Option.toList_some, Option.toList_none, List.cons_append, List.nil_append, zB_go, zB_end, zB_no, zokv_i, zokv_r, zokv_n, eq_self]
end PS
section PSC
variable (d : Nat)
theorem w68 {w N mk : Nat} {g : Nat → Int32} (hw : zW w) : ∀ (n j : Nat) (s : Nat → Int32) (h : zH) (a2 a3 : Value), j + n = N → zJ s N mk → zRW w s h → (∀ i, i < N → h (w + 21) i = g i) → (∀ i, ∃ x, x < 100 ∧ g i = nI x) → ∃ h' b2 b3, zXf zT znl (d + 4) 68 2 [.ref w, .int (nI j), a2, a3] [] h = zXf zT znl (d + 4) 68 81 [.ref w, .int (nI N), b2, b3] [] h' ∧ zRW w (zit (zps1 g) s j n) h' ∧ ∀ a, ¬ (w + 4 ≤ a ∧ a < w + 12) → a ≠ w + 20 → a ≠ w + 19 → h' a = h a := by
  intro n
  induction n with
  | zero =>
    intro j s h a2 a3 hj z hR _ _
    have a : nI N ≤ nI j := by rw [show N = j by omega]; exact Int32.le_refl _
    have r12 : h w 12 = nI N := hR.2.2.2.1.2.2.2.1.trans z.1
    refine ⟨h, a2, a3, ?_, hR, fun _ _ _ _ => rfl⟩
    rw [q68_2]
    simp only [q68_3, q68_4, q68_7, gf_W12 hw, r12, a, if_true, Option.bind_some, Option.toList_some, Option.toList_none, List.cons_append, List.nil_append, zB_go, zB_end, zB_no, zokv_i, zokv_r, zokv_n, eq_self]
    rw [show j = N by omega]
  | succ n ih =>
    intro j s h a2 a3 hj z hR hg hx
    have hN8 : N ≤ 8 := z.2.1
    have a : ¬ (nI N ≤ nI j) := nI_ge (by omega) (by omega)
    have hj8 : j < 8 := by omega
    have r12 : h w 12 = nI N := hR.2.2.2.1.2.2.2.1.trans z.1
    by_cases q : g j ≤ nI 0
    · obtain ⟨h', b2, b3, f1, f2, f3⟩ := ih (j + 1) s h a2 a3 (by omega) z hR hg hx
      refine ⟨h', b2, b3, ?_, ?_, f3⟩
      · rw [← f1, q68_2]
        simp only [q68_3, q68_4, q68_7, q68_10, q68_11, q68_14, q68_15, q68_16, q68_75, q68_78, gf_W12 hw, gf_W6 hw, ald_W21 hw hj8, hg j (by omega), r12, a, q, nI_add, if_true, if_false, Option.bind_some, Option.toList_some, Option.toList_none, List.cons_append, List.nil_append, zB_go, zB_end, zB_no, zokv_i, zokv_r, zokv_n, eq_self]
      · show zRW w (zit (zps1 g) (zps1 g s j) (j + 1) n) h'
        unfold zps1
        rw [if_pos q]
        exact f2
    · obtain ⟨x, hx1, ex⟩ := hx j
      obtain ⟨kd, m, t, v, ho, gg, hu, l0, l1, l2, l3, l4, l5, l7, p0, p1, p2, p3, p4, p5, p7⟩ := z.2.2.2.2.1 j hj8
      obtain ⟨h1, e1, e2⟩ := c57 (d + 1) h (k := j) (x := x) hw hj8 hx1 hR z.2.2.2.2.2.2
      rw [← ex] at e1
      have hR1 : zRW w s h1 := zRW_keep hR fun b _ _ b1 b2 b3 b4 => e2 b b3 b2
      have k12 : h1 w 12 = nI N := hR1.2.2.2.1.2.2.2.1.trans z.1
      have k21 : h1 (w + 21) = h (w + 21) := e2 _ (by omega) (by omega)
      have hp := hR1.2.2.1 j hj8
      have eg : ∀ v, zheld v (-999999) (nI 999999) = zhl v (-999999) (nI 999999) := fun v => zheld_eq zlo_hi
      have eg2 : zhl (s (90 + 8 * j + 6) - zcost s j (g j)) (-999999) (nI 999999) = zgold s j (-(zcost s j (g j))) := by unfold zgold; rw [Int32.sub_eq_add_neg]
      have ep : zmin (nI 99) (s (90 + 8 * j + 4) + g j / nI 2) = zhl (s (90 + 8 * j + 4) + g j / nI 2) (nI 0) (nI 99) := by rw [p4, ex]; exact zmin_99 ho l4 x hx1
      have r1 : ∀ y, zup h1 (w + 4 + j) 4 y (w + 4 + j) 6 = s (90 + 8 * j + 6) := fun y => (zup_o (by decide)).trans (hp 6 (by decide))
      have e92 : zps1 g s j = zud (zud s (90 + 8 * j + 4) (zhl (s (90 + 8 * j + 4) + g j / nI 2) (nI 0) (nI 99))) (90 + 8 * j + 6) (zgold s j (-(zcost s j (g j)))) := by
        unfold zps1; rw [if_neg q]; exact zud_comm (by omega)
      have hR2 : zRW w (zps1 g s j) (zup (zup h1 (w + 4 + j) 4 (zhl (s (90 + 8 * j + 4) + g j / nI 2) (nI 0) (nI 99))) (w + 4 + j) 6 (zgold s j (-(zcost s j (g j))))) := by
        rw [e92]; exact zRW_pl hj8 (by decide) (zRW_pl hj8 (by decide) hR1)
      obtain ⟨h', b2, b3, f1, f2, f3⟩ := ih (j + 1) (zps1 g s j) _ (.ref (w + 4 + j)) (.int (zcost s j (g j))) (by omega) (zJ_ps1 hj8 z) hR2 (fun i hi => by rw [zup_row_ne (by omega), zup_row_ne (by omega), k21]; exact hg i hi) hx
      refine ⟨h', b2, b3, ?_, f2, fun b b1 b2 b3 => by rw [f3 b b1 b2 b3, zup_row_ne (by omega), zup_row_ne (by omega)]; exact e2 b b2 b3⟩
      rw [← f1, q68_2]
      simp only [q68_0, q68_1, q68_3, q68_4, q68_7, q68_10, q68_11, q68_14, q68_15, q68_16, q68_19, q68_20, q68_23, q68_24, q68_25, q68_26, q68_27, q68_28, q68_29, q68_32, q68_33, q68_34, q68_37, q68_38, q68_39, q68_40, q68_42, q68_43, q68_44, q68_45, q68_46, q68_49, q68_50, q68_51, q68_52, q68_53, q68_54, q68_57, q68_58, q68_59, q68_61, q68_62, q68_64, q68_65, q68_66, q68_67, q68_69, q68_71, q68_74, q68_75, q68_78, gf_W12 hw, gf_W2 hw, gf_W6 hw, aal_W hw hj8, ald_row hw hj8 (show 6 < 8 by decide), ald_row hw hj8 (show 4 < 8 by decide), ast_row hw hj8 (show 6 < 8 by decide), ast_row hw hj8 (show 4 < 8 by decide), ald_W21 hw hj8, hg j (by omega), k21, hp 4 (by decide), r12, r1, a, q, e1, zn2, not_false_eq_true, c4, c206, eg, eg2, ep, nI_add, rc_W hw, if_true, if_false, Option.bind_some, Option.toList_some, Option.toList_none, List.cons_append, List.nil_append, zB_go, zB_end, zB_no, zokv_i, zokv_r, zokv_n, eq_self]
theorem c68 {w N mk : Nat} {g : Nat → Int32} {s : Nat → Int32} {h : zH} (hw : zW w) (z : zJ s N mk) (hR : zRW w s h) (hg : ∀ i, i < N → h (w + 21) i = g i) (hx : ∀ i, ∃ x, x < 100 ∧ g i = nI x) : ∃ h', zCf zT znl (d + 5) 68 [.ref w] h = some (none, h') ∧ zRW w (zit (zps1 g) s 0 N) h' ∧ ∀ a, ¬ (w + 4 ≤ a ∧ a < w + 12) → a ≠ w + 20 → a ≠ w + 19 → h' a = h a := by
  obtain ⟨h', b2, b3, f1, f2, f3⟩ := w68 d hw N 0 s h .null .null (Nat.zero_add N) z hR hg hx
  refine ⟨h', ?_, f2, f3⟩
  simp only [e68, q68_0, q68_1, Option.bind_some, Option.toList_some, Option.toList_none, List.cons_append, List.nil_append, zB_go, zB_end, zB_no, zokv_i, zokv_r, zokv_n, eq_self]
  rw [f1]
  simp only [q68_81, Option.bind_some, Option.toList_some, Option.toList_none, List.cons_append, List.nil_append, zB_go, zB_end, zB_no, zokv_i, zokv_r, zokv_n, eq_self]
end PSC
