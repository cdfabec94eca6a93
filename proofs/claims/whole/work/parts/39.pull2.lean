/-! ===== the market pulled: both sides ===== -/
theorem zup_self (h : zH) (a j : Nat) : zup h a j (h a j) = h := by
  funext b i
  by_cases x : b = a
  · subst x
    by_cases y : i = j
    · subst y; exact zup_at
    · exact zup_o y
  · exact zup_ne x
section PU
variable (d : Nat)
theorem w153 {h : zH} {N mk : Nat} (hN : h 92 0 = nI N) (hN8 : N ≤ 8) (hm : h 92 1 = nI mk) (hmk : mk < 80) (hP : ∀ k, k < 8 → zP (h 92) k) : ∀ (n j : Nat) (E S : Int32) (a5 a6 : Value), j + n = N → ∃ b5 b6, zXf zT znl (d + 2) 153 14 [.ref 91, .int (nI mk), .int E, .int S, .int (nI j), a5, a6] [] h = zXf zT znl (d + 2) 153 89 [.ref 91, .int (nI mk), .int (zsm (zex (h 92)) (h 99) E j n), .int (zsm (zey (h 92)) (h 99) S j n), .int (nI N), b5, b6] [] h := by
  intro n
  induction n with
  | zero =>
    intro j E S a5 a6 hj
    have a : nI N ≤ nI j := by rw [show N = j by omega]; exact Int32.le_refl _
    refine ⟨a5, a6, ?_⟩
    rw [q153_14]
    simp only [q153_16, q153_17, q153_20, q153_21, q153_22, gf_M0, ald_n92 (show 0 < 488 by decide), hN, a, zsm, if_true, Option.bind_some, Option.toList_some, Option.toList_none, List.cons_append, List.nil_append, zB_go, zB_end, zB_no, zokv_i, zokv_r, zokv_n, eq_self]
    rw [show j = N by omega]
  | succ n ih =>
    intro j E S a5 a6 hj
    have a : ¬ (nI N ≤ nI j) := nI_ge (by omega) (by omega)
    have hj8 : j < 8 := by omega
    obtain ⟨kd, m, t, v, ho, g, hu, l0, l1, l2, l3, l4, l5, l7, p0, p1, p2, p3, p4, p5, p7⟩ := hP j hj8
    have x1 : zstep (nI mk) (h 92 (90 + 8 * j + 2)) (nI 1) = zex (h 92) j := by
      unfold zex; rw [p2, hm]; exact (zex_c mk hmk t l2).1
    have x2 : zstep (nI mk) (h 92 (90 + 8 * j + 2)) (nI 10) / nI 10 = zey (h 92) j := by
      unfold zey; rw [p2, hm]; exact (zex_c mk hmk t l2).2
    obtain ⟨b5, b6, e⟩ := ih (j + 1) (E + zex (h 92) j * h 99 j) (S + zey (h 92) j * h 99 j) (.int (zex (h 92) j)) (.int (zstep (nI mk) (h 92 (90 + 8 * j + 2)) (nI 10))) (by omega)
    refine ⟨b5, b6, ?_⟩
    rw [q153_14]
    simp only [q153_16, q153_17, q153_20, q153_21, q153_22, q153_25, q153_26, q153_27, q153_29, q153_30, q153_33, q153_34, q153_37, q153_39, q153_40, q153_41, q153_43, q153_44, q153_47, q153_49, q153_52, q153_54, q153_55, q153_57, q153_58, q153_61, q153_63, q153_64, q153_65, q153_66, q153_67, q153_68, q153_70, q153_72, q153_73, q153_74, q153_77, q153_79, q153_80, q153_81, q153_82, q153_83, q153_86, gf_M0, gf_M12, ald_n92 (show 0 < 488 by decide), ald_n99 hj8, hN, a, c112 _ _ hj8 (show 2 < 8 by decide), c125, x1, x2, zn10, not_false_eq_true, nI_add, rc_M, if_true, if_false, Option.bind_some, Option.toList_some, Option.toList_none, List.cons_append, List.nil_append, zB_go, zB_end, zB_no, zokv_i, zokv_r, zokv_n, eq_self]
    exact e
theorem c153 {h : zH} {N mk : Nat} (hN : h 92 0 = nI N) (hN8 : N ≤ 8) (hm : h 92 1 = nI mk) (hmk : mk < 80) (hP : ∀ k, k < 8 → zP (h 92) k) (hg : ∀ i, i < N → h 99 i = zshout (h 92) i) : zCf zT znl (d + 3) 153 [.ref 91] h = some (some (.int (zpulled (h 92))), h) := by
  obtain ⟨b5, b6, e⟩ := w153 d hN hN8 hm hmk hP N 0 (nI 0) (nI 0) .null .null (Nat.zero_add N)
  obtain ⟨c, hc, ec⟩ := zpst_c hN hN8 hm hmk hP
  have zN : zn (h 92) 0 = N := zn_of hN (by omega)
  have eE : zsm (zex (h 92)) (h 99) (nI 0) 0 N = zsE (h 92) := by
    unfold zsE; rw [zN]; exact zsm_congr N 0 _ fun i _ hi => ⟨rfl, hg i (by omega)⟩
  have eS : zsm (zey (h 92)) (h 99) (nI 0) 0 N = zsS (h 92) := by
    unfold zsS; rw [zN]; exact zsm_congr N 0 _ fun i _ hi => ⟨rfl, hg i (by omega)⟩
  rw [eE, eS] at e
  have hc2 : nI mk + zpst (h 92) = nI c := ec
  have hv : zpulled (h 92) = if zpst (h 92) = nI 0 then nI mk else if h 92 (10 + c) = nI 1 then nI mk else nI c := by
    unfold zpulled
    rw [hm, ec, nI_clamp (by omega)]
  simp only [e153, q153_0, q153_1, q153_4, q153_5, q153_6, q153_7, q153_8, q153_9, q153_10, q153_11, q153_12, gf_M0, ald_n92 (show 1 < 488 by decide), hm, Option.bind_some, Option.toList_some, Option.toList_none, List.cons_append, List.nil_append, zB_go, zB_end, zB_no, zokv_i, zokv_r, zokv_n, eq_self]
  rw [e]
  by_cases q : zabs (zsE (h 92)) < zabs (zsS (h 92))
  · have ep : zsgn (zsS (h 92)) * nI 10 = zpst (h 92) := by unfold zpst; rw [if_pos q, Int32.mul_comm]
    simp only [q153_89, q153_90, q153_93, q153_94, q153_97, q153_100, q153_101, q153_104, q153_105, q153_107, q153_109, q153_112, q153_113, q153_116, q153_117, q153_119, q153_121, q153_124, q153_125, q153_128, q153_130, q153_133, q153_134, q153_137, c113, q, zn1_0, rc_M, if_true, if_false, Option.bind_some, Option.toList_some, Option.toList_none, List.cons_append, List.nil_append, zB_go, zB_end, zB_no, zokv_i, zokv_r, zokv_n, eq_self]
    rw [zXif, zXif, show (if zsS (h 92) ≤ nI 0 then if nI 0 ≤ zsS (h 92) then nI 0 else -1 else nI 1) = zsgn (zsS (h 92)) from rfl]
    simp only [q153_138, q153_140, q153_143, q153_144, q153_147, q153_149, q153_150, q153_152, q153_153, q153_154, q153_156, q153_157, zn1_0, rc_M, ep, c126_0 _ _ _ _ ec (show c < 478 by omega), if_true, if_false, Option.bind_some, Option.toList_some, Option.toList_none, List.cons_append, List.nil_append, zB_go, zB_end, zB_no, zokv_i, zokv_r, zokv_n, eq_self]
    rw [hv]
    by_cases z0 : zpst (h 92) = nI 0
    · simp only [q153_160, q153_163, q153_164, q153_166, q153_167, q153_170, q153_171, z0, if_true, Option.bind_some, Option.toList_some, Option.toList_none, List.cons_append, List.nil_append, zB_go, zB_end, zB_no, zokv_i, zokv_r, zokv_n, eq_self]
    · by_cases z1 : h 92 (10 + c) = nI 1
      · simp only [q153_160, q153_163, q153_164, q153_166, q153_167, q153_170, q153_171, z0, z1, if_true, if_false, Option.bind_some, Option.toList_some, Option.toList_none, List.cons_append, List.nil_append, zB_go, zB_end, zB_no, zokv_i, zokv_r, zokv_n, eq_self]
      · simp only [q153_160, q153_163, q153_164, q153_166, q153_167, q153_170, q153_171, z0, z1, ec, zn1_0, if_true, if_false, Option.bind_some, Option.toList_some, Option.toList_none, List.cons_append, List.nil_append, zB_go, zB_end, zB_no, zokv_i, zokv_r, zokv_n, eq_self]
  · have ep : zsgn (zsE (h 92)) * nI 1 = zpst (h 92) := by unfold zpst; rw [if_neg q]; exact Int32.mul_one _
    simp only [q153_89, q153_90, q153_93, q153_94, q153_97, q153_100, q153_101, q153_104, q153_105, q153_107, q153_109, q153_112, q153_113, q153_116, q153_117, q153_119, q153_121, q153_124, q153_125, q153_128, q153_130, q153_133, q153_134, q153_137, c113, q, zn1_0, rc_M, if_true, if_false, Option.bind_some, Option.toList_some, Option.toList_none, List.cons_append, List.nil_append, zB_go, zB_end, zB_no, zokv_i, zokv_r, zokv_n, eq_self]
    rw [zXif, zXif, show (if zsE (h 92) ≤ nI 0 then if nI 0 ≤ zsE (h 92) then nI 0 else -1 else nI 1) = zsgn (zsE (h 92)) from rfl]
    simp only [q153_138, q153_140, q153_143, q153_144, q153_147, q153_149, q153_150, q153_152, q153_153, q153_154, q153_156, q153_157, zn1_0, rc_M, ep, c126_0 _ _ _ _ ec (show c < 478 by omega), if_true, if_false, Option.bind_some, Option.toList_some, Option.toList_none, List.cons_append, List.nil_append, zB_go, zB_end, zB_no, zokv_i, zokv_r, zokv_n, eq_self]
    rw [hv]
    by_cases z0 : zpst (h 92) = nI 0
    · simp only [q153_160, q153_163, q153_164, q153_166, q153_167, q153_170, q153_171, z0, if_true, Option.bind_some, Option.toList_some, Option.toList_none, List.cons_append, List.nil_append, zB_go, zB_end, zB_no, zokv_i, zokv_r, zokv_n, eq_self]
    · by_cases z1 : h 92 (10 + c) = nI 1
      · simp only [q153_160, q153_163, q153_164, q153_166, q153_167, q153_170, q153_171, z0, z1, if_true, if_false, Option.bind_some, Option.toList_some, Option.toList_none, List.cons_append, List.nil_append, zB_go, zB_end, zB_no, zokv_i, zokv_r, zokv_n, eq_self]
      · simp only [q153_160, q153_163, q153_164, q153_166, q153_167, q153_170, q153_171, z0, z1, ec, zn1_0, if_true, if_false, Option.bind_some, Option.toList_some, Option.toList_none, List.cons_append, List.nil_append, zB_go, zB_end, zB_no, zokv_i, zokv_r, zokv_n, eq_self]
end PU
