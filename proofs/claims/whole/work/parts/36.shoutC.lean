/-! ===== shouts: the class ===== -/
section SC
variable (d : Nat) (h : zH)
theorem c56 {w k mk kd m hm v ho g hu : Nat} {s : Nat → Int32} (hw : zW w) (hk : k < 8) (hR : zRW w s h) (hm1 : s 1 = nI mk) (hmk : mk < 80) (l1 : m < 100) (l2 : hm < 80) (l5 : g < 100) (p1 : s (90 + 8 * k + 1) = nI m) (p2 : s (90 + 8 * k + 2) = nI hm) (p5 : s (90 + 8 * k + 5) = nI g) : zCf zT znl (d + 4) 56 [.ref w, .ref (w + 4 + k)] h = some (some (.int (zgain s k)), h) := by
  obtain ⟨hg, -, hp, ⟨r9, -⟩, -⟩ := hR
  have eg : zgain s k = nI (nworth g m hm (ngo s mk hm false)) - nI (nworth g m hm mk) := by
    unfold zgain zwo
    rw [zn_of p5 (by omega), zn_of p1 (by omega), zn_of p2 (by omega), zn_of hm1 (by omega)]
  have q1 : h (w + 4 + k) 1 = nI m := (hp k hk 1 (by decide)).trans p1
  have q2 : h (w + 4 + k) 2 = nI hm := (hp k hk 2 (by decide)).trans p2
  have q5 : h (w + 4 + k) 5 = nI g := (hp k hk 5 (by decide)).trans p5
  have g1 := fun d => c55 d h hw hg hmk l2 false
  simp only [Bool.false_eq_true, if_false] at g1
  have g2 := fun d => c3 d h hw hk q5 q1 q2 l5 l1 l2 (ngo_lt (s := s) (o := false) hmk l2)
  have g3 := fun d => c3 d h hw hk q5 q1 q2 l5 l1 l2 hmk
  rw [eg]
  simp only [e56, q56_0, q56_1, q56_2, q56_5, q56_6, q56_7, q56_8, q56_9, q56_12, q56_13, q56_14, q56_15, q56_18, q56_19, q56_20, q56_23, q56_26, q56_27, gf_W9 hw, r9, hm1, ald_row hw hk (show 2 < 8 by decide), q2, g1, g2, g3, rc_W hw, Option.bind_some, Option.toList_some, Option.toList_none, List.cons_append, List.nil_append, zB_go, zB_end, zB_no, zokv_i, zokv_r, zokv_n, eq_self]
theorem c58_0 {w k mk hm : Nat} {s : Nat → Int32} (hw : zW w) (hk : k < 8) (hR : zRW w s h) (hm1 : s 1 = nI mk) (hmk : mk < 80) (l2 : hm < 80) (p2 : s (90 + 8 * k + 2) = nI hm) (p7 : ¬ s (90 + 8 * k + 7) = nI 1) : zCf zT znl (d + 5) 58 [.ref w, .int (nI k)] h = zXf zT znl (d + 4) 58 52 [.ref w, .int (nI k), .ref (w + 4 + k), .int (zfar s k), .int (zvo s k), .int (zloud s k), .int (nI 0)] [] h := by
  obtain ⟨-, -, hp, ⟨r9, -⟩, -⟩ := hR
  have q2 := hp k hk 2 (by decide)
  have q3 := hp k hk 3 (by decide)
  have q4 := hp k hk 4 (by decide)
  have q7 := hp k hk 7 (by decide)
  have e : zdis (s (90 + 8 * k + 2)) (s 1) = zfar s k := by
    unfold zfar
    rw [p2, hm1, zdis_n hm l2 mk hmk, zdis_n mk hmk hm l2, nfar_comm]
  simp only [e58, q58_0, q58_1, q58_4, q58_5, q58_6, q58_7, q58_8, q58_10, q58_11, q58_12, q58_17, q58_18, q58_19, q58_20, q58_21, q58_24, q58_27, q58_28, q58_29, q58_30, q58_31, q58_32, q58_33, q58_34, q58_35, q58_37, q58_38, q58_41, q58_42, q58_45, gf_W2 hw, gf_W9 hw, aal_W hw hk, ald_row hw hk (show 7 < 8 by decide), ald_row hw hk (show 2 < 8 by decide), ald_row hw hk (show 3 < 8 by decide), ald_row hw hk (show 4 < 8 by decide), q2, q3, q4, q7, r9, p7, c1, e, if_false, Option.bind_some, Option.toList_some, Option.toList_none, List.cons_append, List.nil_append, zB_go, zB_end, zB_no, zokv_i, zokv_r, zokv_n, eq_self]
  rw [zXif, q58_47]
  · simp only [q58_49, q58_50, Option.bind_some, Option.toList_some, Option.toList_none, List.cons_append, List.nil_append, zB_go, zB_end, zB_no, zokv_i, zokv_r, zokv_n, eq_self]
    rfl
  · rfl
theorem c58 {w k N mk : Nat} {s : Nat → Int32} (hw : zW w) (hk : k < 8) (hR : zRW w s h) (hN : s 0 = nI N) (hN8 : N ≤ 8) (hm1 : s 1 = nI mk) (hmk : mk < 80) (hP : zP s k) (t0 : zTI zok0 s 0) (t1 : zTI zok1 s 1) : ∃ h', zCf zT znl (d + 5) 58 [.ref w, .int (nI k)] h = some (some (.int (zshout s k)), h') ∧ ∀ a, a ≠ w + 20 → a ≠ w + 15 → a ≠ w + 19 → h' a = h a := by
  obtain ⟨kd, m, hm, v, ho, g, hu, l0, l1, l2, l3, l4, l5, l7, p0, p1, p2, p3, p4, p5, p7⟩ := id hP
  have hp := hR.2.2.1
  have r12 : h w 12 = nI N := hR.2.2.2.1.2.2.2.1.trans hN
  have r10 : h w 10 = s 2 := hR.2.2.2.1.2.1
  have q0 : h (w + 4 + k) 0 = nI kd := (hp k hk 0 (by decide)).trans p0
  have q1 : h (w + 4 + k) 1 = s (90 + 8 * k + 1) := hp k hk 1 (by decide)
  have zk : zn s (90 + 8 * k) = kd := zn_of p0 (by omega)
  have zh : ∀ x, zheld x (nI 0) (nI 99) = zhl x (nI 0) (nI 99) := fun x => zheld_eq (by decide)
  unfold zshout
  by_cases q7 : s (90 + 8 * k + 7) = nI 1
  · refine ⟨h, ?_, fun _ _ _ _ => rfl⟩
    have q7' := hp k hk 7 (by decide)
    rw [if_pos q7]
    simp only [e58, q58_0, q58_1, q58_4, q58_5, q58_6, q58_7, q58_8, q58_10, q58_11, q58_12, q58_15, q58_16, gf_W2 hw, aal_W hw hk, ald_row hw hk (show 7 < 8 by decide), q7', q7, if_true, Option.bind_some, Option.toList_some, Option.toList_none, List.cons_append, List.nil_append, zB_go, zB_end, zB_no, zokv_i, zokv_r, zokv_n, eq_self]
  · rw [if_neg q7, c58_0 d h hw hk hR hm1 hmk l2 p2 q7]
    unfold zplain
    rw [zk]
    obtain rfl | rfl | rfl | rfl | rfl | rfl | rfl : kd = 0 ∨ kd = 1 ∨ kd = 2 ∨ kd = 3 ∨ kd = 4 ∨ kd = 5 ∨ kd = 6 := by omega
    · refine ⟨h, ?_, fun _ _ _ _ => rfl⟩
      simp (decide := true) only [q58_52, q58_53, q58_54, q58_55, q58_200, q58_202, q58_203, q58_205, q58_208, ald_row hw hk (show 0 < 8 by decide), q0, c4, zh, if_false, Option.bind_some, Option.toList_some, Option.toList_none, List.cons_append, List.nil_append, zB_go, zB_end, zB_no, zokv_i, zokv_r, zokv_n, eq_self]
    · refine ⟨h, ?_, fun _ _ _ _ => rfl⟩
      simp (decide := true) only [q58_52, q58_53, q58_54, q58_55, q58_92, q58_94, q58_96, q58_200, q58_202, q58_203, q58_205, q58_208, ald_row hw hk (show 0 < 8 by decide), q0, c4, zh, if_true, if_false, Option.bind_some, Option.toList_some, Option.toList_none, List.cons_append, List.nil_append, zB_go, zB_end, zB_no, zokv_i, zokv_r, zokv_n, eq_self]
    · refine ⟨h, ?_, fun _ _ _ _ => rfl⟩
      by_cases q : zfar s k ≤ nI 3
      · have q' : ¬ (nI 3 < zfar s k) := Int32.not_lt.mpr q
        simp (decide := true) only [q58_52, q58_53, q58_54, q58_55, q58_99, q58_100, q58_101, q58_104, q58_106, q58_109, q58_110, q58_112, q58_200, q58_202, q58_203, q58_205, q58_208, ald_row hw hk (show 0 < 8 by decide), q0, q, q', c4, zh, if_true, if_false, Option.bind_some, Option.toList_some, Option.toList_none, List.cons_append, List.nil_append, zB_go, zB_end, zB_no, zokv_i, zokv_r, zokv_n, eq_self]
      · have q' : nI 3 < zfar s k := Int32.not_le.mp q
        simp (decide := true) only [q58_52, q58_53, q58_54, q58_55, q58_99, q58_100, q58_101, q58_104, q58_106, q58_109, q58_110, q58_112, q58_200, q58_202, q58_203, q58_205, q58_208, ald_row hw hk (show 0 < 8 by decide), q0, q, q', c4, zh, if_true, if_false, Option.bind_some, Option.toList_some, Option.toList_none, List.cons_append, List.nil_append, zB_go, zB_end, zB_no, zokv_i, zokv_r, zokv_n, eq_self]
    · refine ⟨h, ?_, fun _ _ _ _ => rfl⟩
      have zN : zn s 0 = N := zn_of hN (by omega)
      have g1 := fun d => c52 d h hw hk hp r12 hN8
      simp (decide := true) only [q58_52, q58_53, q58_54, q58_55, q58_115, q58_117, q58_118, q58_119, q58_120, q58_121, q58_122, q58_125, q58_126, q58_127, q58_129, q58_200, q58_202, q58_203, q58_205, q58_208, ald_row hw hk (show 0 < 8 by decide), ald_row hw hk (show 1 < 8 by decide), q0, q1, g1, zN, c4, zh, rc_W hw, if_true, if_false, Option.bind_some, Option.toList_some, Option.toList_none, List.cons_append, List.nil_append, zB_go, zB_end, zB_no, zokv_i, zokv_r, zokv_n, eq_self]
    · refine ⟨h, ?_, fun _ _ _ _ => rfl⟩
      by_cases q : s 2 % nI 4 = s (90 + 8 * k + 1) % nI 4
      · simp (decide := true) only [q58_52, q58_53, q58_54, q58_55, q58_132, q58_133, q58_136, q58_137, q58_138, q58_139, q58_140, q58_141, q58_142, q58_143, q58_146, q58_148, q58_151, q58_152, q58_154, q58_200, q58_202, q58_203, q58_205, q58_208, gf_W10 hw, r10, zn4, not_false_eq_true, ald_row hw hk (show 0 < 8 by decide), ald_row hw hk (show 1 < 8 by decide), q0, q1, q, c4, zh, if_true, if_false, Option.bind_some, Option.toList_some, Option.toList_none, List.cons_append, List.nil_append, zB_go, zB_end, zB_no, zokv_i, zokv_r, zokv_n, eq_self]
      · simp (decide := true) only [q58_52, q58_53, q58_54, q58_55, q58_132, q58_133, q58_136, q58_137, q58_138, q58_139, q58_140, q58_141, q58_142, q58_143, q58_146, q58_148, q58_151, q58_152, q58_154, q58_200, q58_202, q58_203, q58_205, q58_208, gf_W10 hw, r10, zn4, not_false_eq_true, ald_row hw hk (show 0 < 8 by decide), ald_row hw hk (show 1 < 8 by decide), q0, q1, q, c4, zh, if_true, if_false, Option.bind_some, Option.toList_some, Option.toList_none, List.cons_append, List.nil_append, zB_go, zB_end, zB_no, zokv_i, zokv_r, zokv_n, eq_self]
    · obtain ⟨h', e1, e2⟩ := c53 (d + 1) h (far := zfar s k) hw hk hR t0 rfl
      refine ⟨h', ?_, fun a a1 a2 _ => e2 a a1 a2⟩
      simp (decide := true) only [q58_52, q58_53, q58_54, q58_55, q58_157, q58_158, q58_159, q58_160, q58_163, q58_165, q58_200, q58_202, q58_203, q58_205, q58_208, ald_row hw hk (show 0 < 8 by decide), q0, e1, rc_W hw, c4, zh, if_true, if_false, Option.bind_some, Option.toList_some, Option.toList_none, List.cons_append, List.nil_append, zB_go, zB_end, zB_no, zokv_i, zokv_r, zokv_n, eq_self]
    · obtain ⟨x, hx, ex⟩ := zhl_99 (zloud s k)
      obtain ⟨h', e1, e2⟩ := c57 (d + 1) h hw hk hx hR t1
      refine ⟨h', ?_, fun a a1 _ a3 => e2 a a1 a3⟩
      have g1 := fun d => c56 d h (kd := 0) (v := 0) (ho := 0) (hu := 0) hw hk hR hm1 hmk l1 l2 l5 p1 p2 p5
      rw [ex]
      by_cases q : zcost s k (nI x) ≤ zgain s k
      · have q' : ¬ (zgain s k < zcost s k (nI x)) := Int32.not_lt.mpr q
        simp (decide := true) only [q58_52, q58_53, q58_54, q58_55, q58_168, q58_169, q58_170, q58_173, q58_174, q58_175, q58_177, q58_178, q58_180, q58_183, q58_186, q58_189, q58_191, q58_194, q58_195, q58_197, q58_200, q58_202, q58_203, q58_205, q58_208, ald_row hw hk (show 0 < 8 by decide), q0, g1, c4, zh, ex, e1, q, q', rc_W hw, if_true, if_false, Option.bind_some, Option.toList_some, Option.toList_none, List.cons_append, List.nil_append, zB_go, zB_end, zB_no, zokv_i, zokv_r, zokv_n, eq_self]
      · have q' : zgain s k < zcost s k (nI x) := Int32.not_le.mp q
        simp (decide := true) only [q58_52, q58_53, q58_54, q58_55, q58_168, q58_169, q58_170, q58_173, q58_174, q58_175, q58_177, q58_178, q58_180, q58_183, q58_186, q58_189, q58_191, q58_194, q58_195, q58_197, q58_200, q58_202, q58_203, q58_205, q58_208, ald_row hw hk (show 0 < 8 by decide), q0, g1, c4, zh, ex, e1, q, q', rc_W hw, if_true, if_false, Option.bind_some, Option.toList_some, Option.toList_none, List.cons_append, List.nil_append, zB_go, zB_end, zB_no, zokv_i, zokv_r, zokv_n, eq_self]
end SC
