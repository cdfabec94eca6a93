/-! ===== move ===== -/
section O77
variable (d : Nat) {h : zH}
theorem o40_ok {k l a b c n L K : Nat} (hk : k < 4) (hl : l < 4) (R : Rel h) (S : zSh h) (hL : L ≤ 24) (hK : K ≤ 24) (s1 : h (82 + 2 * k) 2 = nI L) (t1 : h (82 + 2 * l) 2 = nI K) (hab : a + b ≤ L) (hcb : c + b ≤ K) (cc : ∀ h1, oCpy 124 [.ref 0, .int (nI k), .int (nI a), .int (nI l), .int (nI c), .int (nI b), .ref (82 + 2 * k), .ref (82 + 2 * l)] [.int (nI b), .int (nI c), .ref (82 + 2 * l + 1), .int (nI a), .ref (82 + 2 * k + 1)] h = zgo 124 [.ref 0, .int (nI k), .int (nI a), .int (nI l), .int (nI c), .int (nI b), .ref (82 + 2 * k), .ref (82 + 2 * l)] [] h1 → zCf zT znl (d + 60) 40 [.ref 0, .int (nI k), .int (nI a), .int (nI l), .int (nI c), .int (nI b)] h = some (some (.int (nI b)), h1)) (mm : ∀ g, (∀ a, a = 102 ∨ a = 103 → g a = h a) → zCf zT znl (d + 60) 194 [.ref 91, .int (nI k), .int (nI a), .int (nI l), .int (nI c), .int (nI b)] g = zXf zT znl (d + 59) 194 115 [.ref 91, .int (nI k), .int (nI a), .int (nI l), .int (nI c), .int (nI b), .int (nI 0)] [] g) : zOp (d + 60) 40 194 [.int (nI k), .int (nI a), .int (nI l), .int (nI c), .int (nI b)] h := by
  have ha := zSt_of k hk
  have hb := zSt_of l hl
  have c1 := cc _ (cpy (h := h) (zar_S1 ha) (zar_S1 hb) (show a + b ≤ 24 by omega) (show c + b ≤ 24 by omega) (by decide) (by decide))
  obtain ⟨H, eH⟩ : ∃ H, zcp h (82 + 2 * k + 1) a (82 + 2 * l + 1) c b = H := ⟨_, rfl⟩
  rw [eH] at c1
  have fH : ∀ x, x ≠ 82 + 2 * l + 1 → H x = h x := fun x hx => by rw [← eH, zcp_ne hx]
  obtain ⟨h1, p1, p2, p3⟩ := w194a (d + 59) (k := k) (a := a) (b := b) (x := .null) (y := .null) (z := .int (nI l)) (w := .int (nI c)) (v := .null) hk (by omega) b 0 H (by omega)
  obtain ⟨h2, q1, q2, q3⟩ := w194b (d + 59) (l := l) (c := c) (b := b) (x := .int (nI k)) (y := .int (nI a)) hl (by omega) b 0 h1 (by omega)
  have f2 : ∀ x, x ≠ 82 + 2 * l + 1 → x ≠ 104 → x ≠ 105 → h2 x = h x := fun x e1 e2 e3 => by rw [q3 x e2, p3 x e3, fH x e1]
  refine ⟨nI b, H, h2, c1, ?_, Rel_sh R (zSh_upd (k := l) S ?_ (fun x g1 g2 g3 g4 => f2 x (by omega) (by omega) (by omega)) (fun j hj => by rw [f2 102 (by omega) (by omega) (by omega)]) (fun j hj => by rw [f2 103 (by omega) (by omega) (by omega)]) fun j hj => ?_) fun x g1 g2 => f2 x (by omega) (by omega) (by omega)⟩
  · rw [mm H fun a ha => fH a (by omega), p1, ← q1]
    simp only [q194_149, q194_150, Option.bind_some, Option.toList_some, Option.toList_none, List.cons_append, List.nil_append, zB_go, zB_end, zB_no, zokv_i, zokv_r, zokv_n, eq_self]
  · obtain ⟨⟨n', hn', u1, u2⟩, u3, u4, u5⟩ := S l hl
    refine ⟨⟨n', hn', ?_, ?_⟩, ?_, ?_, fun j hj => ?_⟩
    · rw [f2 _ (by omega) (by omega) (by omega)]; exact u1
    · rw [f2 _ (by omega) (by omega) (by omega)]; exact u2
    · rw [f2 _ (by omega) (by omega) (by omega), f2 _ (by omega) (by omega) (by omega)]; exact u3
    · rw [f2 _ (by omega) (by omega) (by omega)]; exact u4
    · rw [q3 _ (by omega), p3 _ (by omega), q2 (24 * l + j)]
      by_cases y : c ≤ j ∧ j < c + b
      · rw [if_pos (by omega), p2, if_pos (by omega), ← eH, zcp_at y.1 y.2, zcp_ne (by omega), (S k hk).2.2.2 _ (by omega)]
        congr 1
        omega
      · rw [if_neg (by omega), p3 104 (by omega), fH 104 (by omega), ← eH, zcp_out y]
        exact u5 j hj
  · rw [q2 j, if_neg (by omega), p3 _ (by omega), fH _ (by omega)]
theorem o40 (R : Rel h) (x i u j n : Int32) : zOp (d + 60) 40 194 [.int x, .int i, .int u, .int j, .int n] h := by
  obtain ⟨-, -, -, -, -, S⟩ := id R
  rcases zwi_c x 3 (by decide) with e | ⟨k, hk, rfl, e⟩
  · exact zOp_k 1 R (by simp only [e40, q40_0, q40_1, q40_4, q40_14, q40_15, q40_16, q40_19, c37x, e, ce_1, ce_2, ce_3, ce_4, ce_5, ce_6, cm_1, cm_2, cm_3, cm_4, cm_5, cm_6, rc_L, rc_M, zn1_0, if_true, if_false, ↓reduceIte, Option.bind_some, Option.toList_some, Option.toList_none, List.cons_append, List.nil_append, zB_go, zB_end, zB_no, zokv_i, zokv_r, zokv_n, eq_self]) fun g hg => by simp only [e194, q194_0, q194_1, q194_4, q194_14, q194_15, q194_16, q194_19, c191, e, ce_1, ce_2, ce_3, ce_4, ce_5, ce_6, cm_1, cm_2, cm_3, cm_4, cm_5, cm_6, rc_L, rc_M, zn1_0, if_true, if_false, ↓reduceIte, Option.bind_some, Option.toList_some, Option.toList_none, List.cons_append, List.nil_append, zB_go, zB_end, zB_no, zokv_i, zokv_r, zokv_n, eq_self]
  rcases zwi_c u 3 (by decide) with f | ⟨l, hl, rfl, f⟩
  · exact zOp_k 1 R (by simp only [e40, q40_0, q40_1, q40_4, q40_7, q40_8, q40_11, q40_14, q40_15, q40_16, q40_19, c37x, e, f, ce_1, ce_2, ce_3, ce_4, ce_5, ce_6, cm_1, cm_2, cm_3, cm_4, cm_5, cm_6, rc_L, rc_M, zn1_0, if_true, if_false, ↓reduceIte, Option.bind_some, Option.toList_some, Option.toList_none, List.cons_append, List.nil_append, zB_go, zB_end, zB_no, zokv_i, zokv_r, zokv_n, eq_self]) fun g hg => by simp only [e194, q194_0, q194_1, q194_4, q194_7, q194_8, q194_11, q194_14, q194_15, q194_16, q194_19, c191, e, f, ce_1, ce_2, ce_3, ce_4, ce_5, ce_6, cm_1, cm_2, cm_3, cm_4, cm_5, cm_6, rc_L, rc_M, zn1_0, if_true, if_false, ↓reduceIte, Option.bind_some, Option.toList_some, Option.toList_none, List.cons_append, List.nil_append, zB_go, zB_end, zB_no, zokv_i, zokv_r, zokv_n, eq_self]
  have k4 : k < 4 := by omega
  have l4 : l < 4 := by omega
  have ha := zSt_of k k4
  have hb := zSt_of l l4
  obtain ⟨⟨L, hL, s1, s2⟩, s3, -, -⟩ := S k k4
  obtain ⟨⟨K, hK, t1, t2⟩, t3, -, -⟩ := S l l4
  by_cases z1 : h 102 k = nI 0
  · exact zOp_k 2 R (by simp only [e40, q40_0, q40_1, q40_4, q40_7, q40_8, q40_11, q40_20, q40_21, q40_24, q40_25, q40_26, q40_28, q40_29, q40_32, q40_33, q40_34, q40_36, q40_38, q40_41, q40_52, q40_53, q40_54, q40_57, c37x, e, f, gf_L6, aal_S k4, aal_S l4, c102 _ ha, s3, z1, rc_S ha, ce_1, ce_2, ce_3, ce_4, ce_5, ce_6, cm_1, cm_2, cm_3, cm_4, cm_5, cm_6, rc_L, rc_M, zn1_0, if_true, if_false, ↓reduceIte, Option.bind_some, Option.toList_some, Option.toList_none, List.cons_append, List.nil_append, zB_go, zB_end, zB_no, zokv_i, zokv_r, zokv_n, eq_self]) fun g hg => by simp only [e194, q194_0, q194_1, q194_4, q194_7, q194_8, q194_11, q194_20, q194_21, q194_24, q194_25, q194_26, q194_38, q194_39, q194_40, q194_43, c191, e, f, gf_M18, ald_n102 k4, hg 102 (by decide), z1, ce_1, ce_2, ce_3, ce_4, ce_5, ce_6, cm_1, cm_2, cm_3, cm_4, cm_5, cm_6, rc_L, rc_M, zn1_0, if_true, if_false, ↓reduceIte, Option.bind_some, Option.toList_some, Option.toList_none, List.cons_append, List.nil_append, zB_go, zB_end, zB_no, zokv_i, zokv_r, zokv_n, eq_self]
  by_cases z2 : h 102 l = nI 0
  · exact zOp_k 2 R (by simp only [e40, q40_0, q40_1, q40_4, q40_7, q40_8, q40_11, q40_20, q40_21, q40_24, q40_25, q40_26, q40_28, q40_29, q40_32, q40_33, q40_34, q40_36, q40_38, q40_41, q40_44, q40_46, q40_49, q40_52, q40_53, q40_54, q40_57, c37x, e, f, gf_L6, aal_S k4, aal_S l4, c102 _ ha, c102 _ hb, s3, t3, z1, z2, rc_S ha, rc_S hb, ce_1, ce_2, ce_3, ce_4, ce_5, ce_6, cm_1, cm_2, cm_3, cm_4, cm_5, cm_6, rc_L, rc_M, zn1_0, if_true, if_false, ↓reduceIte, Option.bind_some, Option.toList_some, Option.toList_none, List.cons_append, List.nil_append, zB_go, zB_end, zB_no, zokv_i, zokv_r, zokv_n, eq_self]) fun g hg => by simp only [e194, q194_0, q194_1, q194_4, q194_7, q194_8, q194_11, q194_20, q194_21, q194_24, q194_25, q194_26, q194_29, q194_30, q194_33, q194_34, q194_35, q194_38, q194_39, q194_40, q194_43, c191, e, f, gf_M18, ald_n102 k4, ald_n102 l4, hg 102 (by decide), z1, z2, ce_1, ce_2, ce_3, ce_4, ce_5, ce_6, cm_1, cm_2, cm_3, cm_4, cm_5, cm_6, rc_L, rc_M, zn1_0, if_true, if_false, ↓reduceIte, Option.bind_some, Option.toList_some, Option.toList_none, List.cons_append, List.nil_append, zB_go, zB_end, zB_no, zokv_i, zokv_r, zokv_n, eq_self]
  by_cases z3 : h 102 k = h 102 l
  · have C0 : zCf zT znl (d + 60) 40 [.ref 0, .int (nI k), .int i, .int (nI l), .int j, .int n] h = zXf zT znl (d + 59) 40 77 [.ref 0, .int (nI k), .int i, .int (nI l), .int j, .int n, .ref (82 + 2 * k), .ref (82 + 2 * l)] [] h := by
      have z2' := z2
      rw [← z3] at t3 z2'
      simp only [e40, q40_0, q40_1, q40_4, q40_7, q40_8, q40_11, q40_20, q40_21, q40_24, q40_25, q40_26, q40_28, q40_29, q40_32, q40_33, q40_34, q40_36, q40_38, q40_41, q40_44, q40_46, q40_49, q40_58, q40_60, q40_63, q40_65, q40_68, c37x, e, f, gf_L6, aal_S k4, aal_S l4, c102 _ ha, c102 _ hb, gf_S1 ha, gf_S1 hb, s3, t3, z1, rc_S ha, rc_S hb, ce_1, ce_2, ce_3, ce_4, ce_5, ce_6, cm_1, cm_2, cm_3, cm_4, cm_5, cm_6, rc_L, rc_M, zn1_0, if_true, if_false, ↓reduceIte, Option.bind_some, Option.toList_some, Option.toList_none, List.cons_append, List.nil_append, zB_go, zB_end, zB_no, zokv_i, zokv_r, zokv_n, eq_self]
    have M0 : ∀ g : zH, g 102 = h 102 → zCf zT znl (d + 60) 194 [.ref 91, .int (nI k), .int i, .int (nI l), .int j, .int n] g = zXf zT znl (d + 59) 194 65 [.ref 91, .int (nI k), .int i, .int (nI l), .int j, .int n, .null] [] g := fun g hg => by
      simp only [e194, q194_0, q194_1, q194_4, q194_7, q194_8, q194_11, q194_20, q194_21, q194_24, q194_25, q194_26, q194_29, q194_30, q194_33, q194_34, q194_35, q194_44, q194_45, q194_48, q194_49, q194_50, q194_51, q194_54, q194_55, q194_56, c191, e, f, gf_M18, ald_n102 k4, ald_n102 l4, hg, ← z3, z1, ce_1, ce_2, ce_3, ce_4, ce_5, ce_6, cm_1, cm_2, cm_3, cm_4, cm_5, cm_6, rc_L, rc_M, zn1_0, if_true, if_false, ↓reduceIte, Option.bind_some, Option.toList_some, Option.toList_none, List.cons_append, List.nil_append, zB_go, zB_end, zB_no, zokv_i, zokv_r, zokv_n, eq_self]
    have bad : (∀ v1, zCf zT znl (d + 59) 105 [.ref (82 + 2 * k), .int i, .int n] h = some (some (.int v1), h) → ∀ v2, zCf zT znl (d + 59) 105 [.ref (82 + 2 * l), .int j, .int n] h = some (some (.int v2), h) → (v1 = nI 0 ∨ (v1 = nI 1 ∧ v2 = nI 0)) → (∀ g : zH, g 103 = h 103 → zXf zT znl (d + 59) 194 65 [.ref 91, .int (nI k), .int i, .int (nI l), .int j, .int n, .null] [] g = zXf zT znl (d + 59) 194 106 [.ref 91, .int (nI k), .int i, .int (nI l), .int j, .int n, .null] [] g) → zOp (d + 60) 40 194 [.int (nI k), .int i, .int (nI l), .int j, .int n] h) := by
      intro v1 w1 v2 w2 w3 w4
      refine zOp_k 1 R ?_ fun g hg => ?_
      · rw [C0]
        rcases w3 with rfl | ⟨rfl, rfl⟩
        · simp only [q40_77, q40_79, q40_80, q40_82, q40_85, q40_100, q40_101, q40_102, q40_105, w1, rc_S ha, ce_1, ce_2, ce_3, ce_4, ce_5, ce_6, cm_1, cm_2, cm_3, cm_4, cm_5, cm_6, rc_L, rc_M, zn1_0, if_true, if_false, ↓reduceIte, Option.bind_some, Option.toList_some, Option.toList_none, List.cons_append, List.nil_append, zB_go, zB_end, zB_no, zokv_i, zokv_r, zokv_n, eq_self]
        · simp only [q40_77, q40_79, q40_80, q40_82, q40_85, q40_88, q40_90, q40_92, q40_94, q40_97, q40_100, q40_101, q40_102, q40_105, w1, w2, rc_S ha, rc_S hb, ce_1, ce_2, ce_3, ce_4, ce_5, ce_6, cm_1, cm_2, cm_3, cm_4, cm_5, cm_6, rc_L, rc_M, zn1_0, if_true, if_false, ↓reduceIte, Option.bind_some, Option.toList_some, Option.toList_none, List.cons_append, List.nil_append, zB_go, zB_end, zB_no, zokv_i, zokv_r, zokv_n, eq_self]
      · rw [M0 g (hg 102 (by decide)), w4 g (hg 103 (by decide))]
        simp only [q194_106, q194_107, q194_108, q194_111, ce_1, ce_2, ce_3, ce_4, ce_5, ce_6, cm_1, cm_2, cm_3, cm_4, cm_5, cm_6, rc_L, rc_M, zn1_0, if_true, if_false, ↓reduceIte, Option.bind_some, Option.toList_some, Option.toList_none, List.cons_append, List.nil_append, zB_go, zB_end, zB_no, zokv_i, zokv_r, zokv_n, eq_self]
    rcases zneg_c n with nn | ⟨b, hbb, rfl⟩
    · exact bad _ (c105_n (d + 58) ha (Or.inl nn) h) _ (c105_n (d + 58) hb (Or.inl nn) h) (Or.inl rfl) fun g hg => by simp only [q194_65, q194_67, nn, zn1_0, if_true, if_false, ↓reduceIte, Option.bind_some, Option.toList_some, Option.toList_none, List.cons_append, List.nil_append, zB_go, zB_end, zB_no, zokv_i, zokv_r, zokv_n, eq_self]
    have n0 : ¬ nI b < nI 0 := nI_nlt (Nat.zero_le _) hbb
    rcases zneg_c i with ni | ⟨a, haa, rfl⟩
    · rcases zneg_c j with nj | ⟨c, hcc, rfl⟩
      · exact bad _ (c105_n (d + 58) ha (Or.inr ni) h) _ (c105_n (d + 58) hb (Or.inr nj) h) (Or.inl rfl) fun g hg => by simp only [q194_65, q194_67, q194_70, q194_71, n0, ni, zn1_0, if_true, if_false, ↓reduceIte, Option.bind_some, Option.toList_some, Option.toList_none, List.cons_append, List.nil_append, zB_go, zB_end, zB_no, zokv_i, zokv_r, zokv_n, eq_self]
      · exact bad _ (c105_n (d + 58) ha (Or.inr ni) h) _ (c105_p (d + 58) hb hK hcc hbb h t1) (Or.inl rfl) fun g hg => by simp only [q194_65, q194_67, q194_70, q194_71, n0, ni, zn1_0, if_true, if_false, ↓reduceIte, Option.bind_some, Option.toList_some, Option.toList_none, List.cons_append, List.nil_append, zB_go, zB_end, zB_no, zokv_i, zokv_r, zokv_n, eq_self]
    have i0 : ¬ nI a < nI 0 := nI_nlt (Nat.zero_le _) haa
    rcases zneg_c j with nj | ⟨c, hcc, rfl⟩
    · refine bad _ (c105_p (d + 58) ha hL haa hbb h s1) _ (c105_n (d + 58) hb (Or.inr nj) h) ?_ fun g hg => by simp only [q194_65, q194_67, q194_70, q194_71, q194_74, q194_76, n0, i0, nj, zn1_0, if_true, if_false, ↓reduceIte, Option.bind_some, Option.toList_some, Option.toList_none, List.cons_append, List.nil_append, zB_go, zB_end, zB_no, zokv_i, zokv_r, zokv_n, eq_self]
      by_cases q : a + b ≤ L
      · exact Or.inr ⟨if_pos q, rfl⟩
      · exact Or.inl (if_neg q)
    have j0 : ¬ nI c < nI 0 := nI_nlt (Nat.zero_le _) hcc
    by_cases q : a + b ≤ L
    · have r1 : ¬ nI L - nI b < nI a := fun w => absurd ((nI_sublt hL haa hbb).mp w) (by omega)
      by_cases q2 : c + b ≤ K
      · have r2 : nI c ≤ nI K - nI b := Int32.not_lt.mp fun w => absurd ((nI_sublt hK hcc hbb).mp w) (by omega)
        refine o40_ok d (n := 0) k4 l4 R S hL hK s1 t1 q q2 (fun h1 w => ?_) fun g hg => ?_
        · have w1 := fun d => c105_p d ha hL haa hbb h s1
          have w2 := fun d => c105_p d hb hK hcc hbb h t1
          rw [C0]
          simp only [q40_77, q40_79, q40_80, q40_82, q40_85, q40_88, q40_90, q40_92, q40_94, q40_97, q40_106, q40_108, q40_111, q40_112, q40_114, q40_117, q40_119, q40_121, q40_124, q40_126, w1, w2, q, q2, gf_S0 ha, gf_S0 hb, rc_S ha, rc_S hb, w, ce_1, ce_2, ce_3, ce_4, ce_5, ce_6, cm_1, cm_2, cm_3, cm_4, cm_5, cm_6, rc_L, rc_M, zn1_0, if_true, if_false, ↓reduceIte, Option.bind_some, Option.toList_some, Option.toList_none, List.cons_append, List.nil_append, zB_go, zB_end, zB_no, zokv_i, zokv_r, zokv_n, eq_self]
        · rw [M0 g (hg 102 (by omega))]
          simp only [q194_65, q194_67, q194_70, q194_71, q194_74, q194_76, q194_79, q194_80, q194_81, q194_84, q194_85, q194_86, q194_88, q194_89, q194_92, q194_94, q194_95, q194_98, q194_99, q194_100, q194_102, q194_103, q194_112, q194_113, n0, i0, j0, gf_M19, ald_n103 k4, ald_n103 l4, hg 103 (by omega), s2, t2, r1, r2, zn1_0, if_true, if_false, ↓reduceIte, Option.bind_some, Option.toList_some, Option.toList_none, List.cons_append, List.nil_append, zB_go, zB_end, zB_no, zokv_i, zokv_r, zokv_n, eq_self]
      · have r2 : ¬ nI c ≤ nI K - nI b := fun w => absurd ((nI_sublt hK hcc hbb).mpr (by omega)) (Int32.not_lt.mpr w)
        refine bad _ (c105_p (d + 58) ha hL haa hbb h s1) _ (c105_p (d + 58) hb hK hcc hbb h t1) (Or.inr ⟨if_pos q, if_neg q2⟩) fun g hg => by simp only [q194_65, q194_67, q194_70, q194_71, q194_74, q194_76, q194_79, q194_80, q194_81, q194_84, q194_85, q194_86, q194_88, q194_89, q194_92, q194_94, q194_95, q194_98, q194_99, q194_100, q194_102, q194_103, n0, i0, j0, gf_M19, ald_n103 k4, ald_n103 l4, hg, s2, t2, r1, r2, zn1_0, if_true, if_false, ↓reduceIte, Option.bind_some, Option.toList_some, Option.toList_none, List.cons_append, List.nil_append, zB_go, zB_end, zB_no, zokv_i, zokv_r, zokv_n, eq_self]
    · have r1 : nI L - nI b < nI a := (nI_sublt hL haa hbb).mpr (by omega)
      refine bad _ (c105_p (d + 58) ha hL haa hbb h s1) _ (c105_p (d + 58) hb hK hcc hbb h t1) (Or.inl (if_neg q)) fun g hg => by simp only [q194_65, q194_67, q194_70, q194_71, q194_74, q194_76, q194_79, q194_80, q194_81, q194_84, q194_85, q194_86, q194_88, q194_89, n0, i0, j0, gf_M19, ald_n103 k4, hg, s2, r1, zn1_0, if_true, if_false, ↓reduceIte, Option.bind_some, Option.toList_some, Option.toList_none, List.cons_append, List.nil_append, zB_go, zB_end, zB_no, zokv_i, zokv_r, zokv_n, eq_self]
  · exact zOp_k 5 R (by simp only [e40, q40_0, q40_1, q40_4, q40_7, q40_8, q40_11, q40_20, q40_21, q40_24, q40_25, q40_26, q40_28, q40_29, q40_32, q40_33, q40_34, q40_36, q40_38, q40_41, q40_44, q40_46, q40_49, q40_58, q40_60, q40_63, q40_65, q40_68, q40_71, q40_72, q40_73, q40_76, c37x, e, f, gf_L6, aal_S k4, aal_S l4, c102 _ ha, c102 _ hb, gf_S1 ha, gf_S1 hb, s3, t3, z1, z2, z3, rc_S ha, rc_S hb, ce_1, ce_2, ce_3, ce_4, ce_5, ce_6, cm_1, cm_2, cm_3, cm_4, cm_5, cm_6, rc_L, rc_M, zn1_0, if_true, if_false, ↓reduceIte, Option.bind_some, Option.toList_some, Option.toList_none, List.cons_append, List.nil_append, zB_go, zB_end, zB_no, zokv_i, zokv_r, zokv_n, eq_self]) fun g hg => by simp only [e194, q194_0, q194_1, q194_4, q194_7, q194_8, q194_11, q194_20, q194_21, q194_24, q194_25, q194_26, q194_29, q194_30, q194_33, q194_34, q194_35, q194_44, q194_45, q194_48, q194_49, q194_50, q194_51, q194_54, q194_55, q194_56, q194_59, q194_60, q194_61, q194_64, c191, e, f, gf_M18, ald_n102 k4, ald_n102 l4, hg 102 (by decide), z1, z2, z3, ce_1, ce_2, ce_3, ce_4, ce_5, ce_6, cm_1, cm_2, cm_3, cm_4, cm_5, cm_6, rc_L, rc_M, zn1_0, if_true, if_false, ↓reduceIte, Option.bind_some, Option.toList_some, Option.toList_none, List.cons_append, List.nil_append, zB_go, zB_end, zB_no, zokv_i, zokv_r, zokv_n, eq_self]
end O77
