/-! ===== a week ===== -/
def zweek (s : Nat → Int32) : Nat → Int32 := zends (zit (zps1 (zshout s)) (zud s 1 (zmove s)) 0 (zn s 0))
theorem zgf_n {s : Nat → Int32} {N mk : Nat} {b : Int32} (z : zJ s N mk) (hb : b = -1 ∨ ∃ i, i < N ∧ b = nI i) : ∃ m, m < 80 ∧ zgf s b = nI m := by
  obtain ⟨hN, hN8, hm, hmk, hP, -, -⟩ := z
  unfold zgf
  split
  · exact ⟨mk, hmk, hm⟩
  · rename_i q
    rcases hb with e | ⟨i, hi, e⟩
    · exact absurd e q
    · obtain ⟨kd, m, t, v, ho, g, hu, l0, l1, l2, l3, l4, l5, l7, p0, p1, p2, p3, p4, p5, p7⟩ := hP i (by omega)
      subst e
      refine ⟨_, ?_, rfl⟩
      rw [zn_of hm (by omega), nI_clamp (by omega), zn_of p2 (by omega)]
      exact ngo_lt hmk l2
theorem zmove_n {s : Nat → Int32} {N mk : Nat} (z : zJ s N mk) : ∃ m, m < 80 ∧ zmove s = nI m := by
  unfold zmove
  split
  · exact ⟨mk, z.2.2.2.1, z.2.2.1⟩
  · unfold zwalk
    split
    · obtain ⟨c, hc, ec⟩ := zpst_c z.1 z.2.1 z.2.2.1 z.2.2.2.1 z.2.2.2.2.1
      unfold zpulled
      rw [z.2.2.1, ec]
      split
      · exact ⟨mk, z.2.2.2.1, rfl⟩
      · split
        · exact ⟨mk, z.2.2.2.1, rfl⟩
        · exact ⟨c, hc, rfl⟩
    · exact zgf_n z (zbest_v z.1 z.2.1)
theorem zmid {s : Nat → Int32} {N mk : Nat} (z : zJ s N mk) : ∃ m, zJ (zit (zps1 (zshout s)) (zud s 1 (zmove s)) 0 N) N m ∧ ∀ i, i < 90 → i ≠ 1 → zit (zps1 (zshout s)) (zud s 1 (zmove s)) 0 N i = s i := by
  obtain ⟨m, hm, em⟩ := zmove_n z
  refine ⟨m, zJ_it (fun s j hj => zJ_ps1 hj) N 0 _ (by have := z.2.1; omega) (by rw [em]; exact zJ_ud1 hm z), fun i hi h1 => ?_⟩
  rw [zit_lo (fun s j => zps1_lo hi), zud_ne h1]
section WK
variable (d : Nat)
theorem c157 {h : zH} {N mk q : Nat} (hq : q < 100) (z : zJ (h 92) N mk) (h7 : h 92 7 = nI q) : ∃ h', zCf zT znl (d + 7) 157 [.ref 91] h = some (none, h') ∧ h' 92 = zweek (h 92) ∧ ∀ a, a ≠ 92 → a ≠ 97 → a ≠ 98 → a ≠ 99 → h' a = h a := by
  obtain ⟨hN, hN8, hm, hmk, hP, t0, t1⟩ := id z
  obtain ⟨h1, e1, e2, e3⟩ := c151 d hN hN8 hm hmk hP t0 t1
  have k92 : h1 92 = h 92 := e2 92 (by decide) (by decide) (by decide)
  have gN : h1 92 0 = nI N := by rw [k92]; exact hN
  have gm : h1 92 1 = nI mk := by rw [k92]; exact hm
  have zN : zn (h 92) 0 = N := zn_of hN (by omega)
  have eb : zld (h1 99) (-1) (nI 0) 0 N = zbest (h 92) := by
    unfold zbest
    rw [zN]
    exact zld_congr N 0 _ _ fun i _ hi => e3 i (by omega)
  have walk : zXf zT znl (d + 6) 157 4 [.ref 91, .null, .null] [] h1 = zXf zT znl (d + 6) 157 54 [.ref 91, .int (zwalk (h 92)), .null] [] h1 := by
    unfold zwalk
    by_cases q6 : h 92 6 = nI 1
    · have c := c153 (d + 3) (h := h1) gN hN8 gm hmk (by rw [k92]; exact hP) (by rw [k92]; exact e3)
      rw [k92] at c
      rw [if_pos q6]
      simp only [q157_4, q157_5, q157_8, q157_9, q157_10, q157_11, q157_12, q157_15, q157_17, q157_18, q157_19, q157_22, q157_23, q157_26, q157_27, gf_M0, ald_n92 (show 1 < 488 by decide), ald_n92 (show 6 < 488 by decide), k92, q6, c, rc_M, if_true, if_false, Option.bind_some, Option.toList_some, Option.toList_none, List.cons_append, List.nil_append, zB_go, zB_end, zB_no, zokv_i, zokv_r, zokv_n, eq_self]
    · have c := fun d => c152 d (h := h1) gN hN8
      rw [eb] at c
      rw [if_neg q6]
      rcases zbest_v hN hN8 with b | ⟨i, hi, b⟩
      · unfold zgf
        rw [if_pos b]
        simp only [q157_4, q157_5, q157_8, q157_9, q157_10, q157_11, q157_12, q157_15, q157_17, q157_18, q157_19, q157_30, q157_31, q157_34, q157_35, gf_M0, ald_n92 (show 1 < 488 by decide), ald_n92 (show 6 < 488 by decide), k92, q6, c, b, rc_M, if_true, if_false, Option.bind_some, Option.toList_some, Option.toList_none, List.cons_append, List.nil_append, zB_go, zB_end, zB_no, zokv_i, zokv_r, zokv_n, eq_self]
      · obtain ⟨kd, m, t, v, ho, g, hu, l0, l1, l2, l3, l4, l5, l7, p0, p1, p2, p3, p4, p5, p7⟩ := hP i (by omega)
        have a : ¬ (nI i = -1) := fun y => (nI_nlt (Nat.zero_le i) (by omega) : ¬ (nI i < nI 0)) (by rw [y]; decide)
        have c2 := c127 (d + 3) (h := h1) hmk l2 false
        rw [if_neg (by decide), k92] at c2
        unfold zgf
        rw [b, if_neg a, zn_of hm (by omega), nI_clamp (by omega), zn_of p2 (by omega)]
        simp only [q157_4, q157_5, q157_8, q157_9, q157_10, q157_11, q157_12, q157_15, q157_17, q157_18, q157_19, q157_30, q157_31, q157_34, q157_35, q157_38, q157_39, q157_40, q157_41, q157_42, q157_45, q157_46, q157_49, q157_50, q157_53, gf_M0, ald_n92 (show 1 < 488 by decide), ald_n92 (show 6 < 488 by decide), k92, q6, hm, c, c2, b, a, p2, c112 _ _ (show i < 8 by omega) (show 2 < 8 by decide), rc_M, if_true, if_false, Option.bind_some, Option.toList_some, Option.toList_none, List.cons_append, List.nil_append, zB_go, zB_end, zB_no, zokv_i, zokv_r, zokv_n, eq_self]
  have put : zXf zT znl (d + 6) 157 54 [.ref 91, .int (zwalk (h 92)), .null] [] h1 = zXf zT znl (d + 6) 157 79 [.ref 91, .int (zwalk (h 92)), .int (nI 0)] [] (zup h1 92 1 (zmove (h 92))) := by
    have c := fun d => c154 d (h := h1) gm hmk
    rw [k92] at c
    unfold zmove
    rcases zmayv_01 (h 92) with y | y
    · rw [if_pos y]
      simp only [q157_54, q157_55, q157_58, q157_59, q157_60, q157_63, q157_66, q157_67, q157_70, q157_71, q157_74, q157_75, q157_76, q157_77, q157_78, gf_M0, ald_n92 (show 1 < 488 by decide), ast_n92 (show 1 < 488 by decide), k92, c, y, rc_M, if_true, if_false, Option.bind_some, Option.toList_some, Option.toList_none, List.cons_append, List.nil_append, zB_go, zB_end, zB_no, zokv_i, zokv_r, zokv_n, eq_self]
    · rw [if_neg (by rw [y]; decide)]
      simp only [q157_54, q157_55, q157_58, q157_59, q157_60, q157_63, q157_66, q157_67, q157_70, q157_71, q157_74, q157_75, q157_76, q157_77, q157_78, gf_M0, ald_n92 (show 1 < 488 by decide), ast_n92 (show 1 < 488 by decide), k92, c, y, zn1_0, rc_M, if_true, if_false, Option.bind_some, Option.toList_some, Option.toList_none, List.cons_append, List.nil_append, zB_go, zB_end, zB_no, zokv_i, zokv_r, zokv_n, eq_self]
  have k2 : zup h1 92 1 (zmove (h 92)) 92 = zud (h 92) 1 (zmove (h 92)) := by rw [zup_ud, k92]
  obtain ⟨m, hm2, em⟩ := zmove_n z
  obtain ⟨h2, f1, f2, f3⟩ := w157 (d + 2) (g := zshout (h 92)) (m1 := zwalk (h 92)) N 0 (zup h1 92 1 (zmove (h 92))) (Nat.zero_add N) (by rw [k2, em]; exact zJ_ud1 hm2 z) (fun i hi => by rw [zup_row_ne (by decide)]; exact e3 i hi)
  rw [k2] at f2
  obtain ⟨m', z2, lo⟩ := zmid z
  rw [← f2] at z2 lo
  have c6 := c156 (d + 1) (h := h2) hq z2 ((lo 7 (by decide) (by decide)).trans h7)
  refine ⟨fun a => if a = 92 then zends (h2 92) else h2 a, ?_, ?_, fun a a1 a2 a3 a4 => ?_⟩
  · simp only [e157, q157_0, q157_1, e1, rc_M, Option.bind_some, Option.toList_some, Option.toList_none, List.cons_append, List.nil_append, zB_go, zB_end, zB_no, zokv_i, zokv_r, zokv_n, eq_self]
    rw [walk, put, f1]
    simp only [q157_156, q157_157, q157_160, c6, rc_M, Option.bind_some, Option.toList_some, Option.toList_none, List.cons_append, List.nil_append, zB_go, zB_end, zB_no, zokv_i, zokv_r, zokv_n, eq_self]
  · show zends (h2 92) = _
    rw [f2]
    unfold zweek
    rw [zN]
  · show (if a = 92 then zends (h2 92) else h2 a) = h a
    rw [if_neg a1, f3 a a1 a2 a3, zup_row_ne a1]
    exact e2 a a2 a3 a4
end WK
