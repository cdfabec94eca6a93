/-! ===== ahead: then, thenPlace ===== -/
section O65
variable (d : Nat) {h : zH}
theorem c165 (x : Int32) (h : zH) : zCf zT znl (d + 2) 165 [.int x] h = some (some (.int (zwi x (nI 0) (nI 60))), h) := by
  simp only [e165, q165_0, q165_1, q165_2, q165_4, q165_7, c107, zwi_01, Option.bind_some, Option.toList_some, Option.toList_none, List.cons_append, List.nil_append, zB_go, zB_end, zB_no, zokv_i, zokv_r, zokv_n, eq_self]
theorem c109s (h : zH) : ∃ h', zCf zT znl (d + 1) 109 [.ref 92, .ref 94] h = some (none, h') ∧ zEq (h 92) (h' 94) ∧ ∀ x, x ≠ 94 → h' x = h x := c109 d (Or.inl rfl) (Or.inr (Or.inr rfl)) (by decide)
theorem c109b (h : zH) : ∃ h', zCf zT znl (d + 1) 109 [.ref 94, .ref 92] h = some (none, h') ∧ zEq (h 94) (h' 92) ∧ ∀ x, x ≠ 92 → h' x = h x := c109 d (Or.inr (Or.inr rfl)) (Or.inl rfl) (by decide)
/-- the world ahead is the world that is -/
theorem c50n (R : Rel h) : ∃ h', zCf zT znl (d + 2) 50 [.ref 49, .ref 1] h = some (none, h') ∧ zRW 49 (h 92) h' ∧ ∀ x, ¬ (49 ≤ x ∧ x < 73) → h' x = h x := c50 d zW_49 zW_1 (by decide) R.2.1
theorem zAl_m {g g' : zH} (e : zEq (g 92) (g' 92)) (f : ∀ a, a ≠ 92 → a ≠ 94 → a ≠ 97 → a ≠ 98 → a ≠ 99 → g' a = g a) : zAl g g' := ⟨e, fun a ha => f a (by unfold zsg at ha; omega) (by unfold zsg at ha; omega) (by unfold zsg at ha; omega) (by unfold zsg at ha; omega) (by unfold zsg at ha; omega)⟩
theorem o25 (R : Rel h) (x : Int32) : zOp (d + 60) 25 166 [.int x] h := by
  obtain ⟨⟨N, mk, z⟩, r, -⟩ := id R
  rcases zwi_c x 60 (by decide) with f | ⟨n, n2, rfl, f⟩
  · exact zOp_k 1 R (by simp only [e25, q25_0, q25_1, q25_2, q25_4, q25_7, q25_10, q25_11, q25_12, q25_15, q25_16, q25_17, q25_20, q25_21, q25_24, q25_27, q25_28, q25_31, q25_32, q25_35, q25_36, q25_39, q25_42, c0, f, ce_1, ce_2, ce_3, ce_4, ce_5, ce_6, cm_1, cm_2, cm_3, cm_4, cm_5, cm_6, rc_L, rc_M, zn1_0, if_true, if_false, ↓reduceIte, Option.bind_some, Option.toList_some, Option.toList_none, List.cons_append, List.nil_append, zB_go, zB_end, zB_no, zokv_i, zokv_r, zokv_n, eq_self]) fun g hg => by simp only [e166, q166_0, q166_1, q166_4, q166_7, q166_8, q166_9, q166_12, q166_13, q166_14, q166_17, q166_18, q166_21, q166_24, q166_25, q166_26, q166_29, q166_30, q166_33, q166_34, q166_35, q166_36, q166_37, q166_40, q166_41, q166_44, q166_47, q166_48, c165, f, ce_1, ce_2, ce_3, ce_4, ce_5, ce_6, cm_1, cm_2, cm_3, cm_4, cm_5, cm_6, rc_L, rc_M, zn1_0, if_true, if_false, ↓reduceIte, Option.bind_some, Option.toList_some, Option.toList_none, List.cons_append, List.nil_append, zB_go, zB_end, zB_no, zokv_i, zokv_r, zokv_n, eq_self]
  obtain ⟨q7, hq, h7⟩ := z.2.1
  obtain ⟨h1, u1, u2, u3⟩ := c50n (d + 57) R
  obtain ⟨h2, v1, v2, v3⟩ := c70 (d + 52) (w := 49) (M := n) (h := h1) zW_49 (by omega) hq z.1 h7 u2
  have k92 : h2 92 = h 92 := by rw [v3 92 (by omega), u3 92 (by omega)]
  obtain ⟨g1, a1, a2, a3⟩ := c109s (d + 58) h2
  have k1 : g1 92 = h 92 := by rw [a3 92 (by decide), k92]
  obtain ⟨g2, b1, b2, b3⟩ := c160 (d + 51) (h := g1) (M := n) (by omega) hq (by rw [k1]; exact z.1) (by rw [k1]; exact h7)
  obtain ⟨g3, p1, p2, p3⟩ := c109b (d + 58) g2
  rw [k1] at b2
  refine zOp_al (x := zwks n (h 92) 1) (h1 := h2) (h2 := g3) R ?_ ?_ (zAl_trans (zAl_49 u3) (zAl_49 v3)) (zAl_m ?_ fun a i1 i2 i3 i4 i5 => ?_)
  · have r9 := v2.2.2.2.1.1
    simp only [e25, q25_0, q25_1, q25_2, q25_4, q25_7, q25_10, q25_11, q25_12, q25_15, q25_16, q25_17, q25_20, q25_21, q25_24, q25_27, q25_28, q25_31, q25_32, q25_35, q25_36, q25_39, q25_42, c0, f, gf_L0, gf_L2, gf_W9 zW_49, u1, v1, r9, rc_W zW_49, ce_1, ce_2, ce_3, ce_4, ce_5, ce_6, cm_1, cm_2, cm_3, cm_4, cm_5, cm_6, rc_L, rc_M, zn1_0, if_true, if_false, ↓reduceIte, Option.bind_some, Option.toList_some, Option.toList_none, List.cons_append, List.nil_append, zB_go, zB_end, zB_no, zokv_i, zokv_r, zokv_n, eq_self]
  · simp only [e166, q166_0, q166_1, q166_4, q166_7, q166_8, q166_9, q166_12, q166_13, q166_14, q166_17, q166_18, q166_21, q166_24, q166_25, q166_26, q166_29, q166_30, q166_33, q166_34, q166_35, q166_36, q166_37, q166_40, q166_41, q166_44, q166_47, q166_48, c165, f, gf_M0, gf_M2, a1, b1, b2, p1, ald_n92 (show 1 < 488 by decide), ce_1, ce_2, ce_3, ce_4, ce_5, ce_6, cm_1, cm_2, cm_3, cm_4, cm_5, cm_6, rc_L, rc_M, zn1_0, if_true, if_false, ↓reduceIte, Option.bind_some, Option.toList_some, Option.toList_none, List.cons_append, List.nil_append, zB_go, zB_end, zB_no, zokv_i, zokv_r, zokv_n, eq_self]
  · exact zEq_trans a2 (by rw [← b3 94 (by decide) (by decide) (by decide) (by decide)]; exact p2)
  · rw [p3 a i1, b3 a i1 i3 i4 i5, a3 a i2]
theorem c167 {n k c N mk : Nat} (g : zH) (hn : n < 100) (hk : k < 8) (hc : c < 10) (z : zI (g 92) N mk) : ∃ g', zCf zT znl (d + 10) 167 [.ref 91, .int (nI n), .int (nI k), .int (nI c)] g = some (some (.int (ztold (zwks n (g 92)) k c)), g') ∧ zEq (g 92) (g' 92) ∧ ∀ a, a ≠ 92 → a ≠ 94 → a ≠ 97 → a ≠ 98 → a ≠ 99 → g' a = g a := by
  obtain ⟨q7, hq, h7⟩ := z.2.1
  obtain ⟨g1, a1, a2, a3⟩ := c109s (d + 8) g
  have k1 : g1 92 = g 92 := a3 92 (by decide)
  obtain ⟨g2, b1, b2, b3⟩ := c160 (d + 1) (h := g1) (M := n) (by omega) hq (by rw [k1]; exact z.1) (by rw [k1]; exact h7)
  rw [k1] at b2
  obtain ⟨m, z'⟩ := zI_wks n z
  obtain ⟨g3, p1, p2⟩ := c132 (d + 3) (h := g2) hk hc (by rw [b2]; exact z'.1)
  rw [b2] at p1
  obtain ⟨g4, s1, s2, s3⟩ := c109b (d + 8) g3
  refine ⟨g4, ?_, ?_, fun a i1 i2 i3 i4 i5 => by rw [s3 a i1, p2 a i3 i4, b3 a i1 i3 i4 i5, a3 a i2]⟩
  · simp only [e167, q167_0, q167_1, q167_4, q167_5, q167_8, q167_11, q167_12, q167_13, q167_16, q167_17, q167_18, q167_19, q167_22, q167_24, q167_25, q167_28, q167_29, q167_32, q167_35, q167_37, gf_M0, gf_M2, a1, b1, p1, s1, ce_1, ce_2, ce_3, ce_4, ce_5, ce_6, cm_1, cm_2, cm_3, cm_4, cm_5, cm_6, rc_L, rc_M, zn1_0, if_true, if_false, ↓reduceIte, Option.bind_some, Option.toList_some, Option.toList_none, List.cons_append, List.nil_append, zB_go, zB_end, zB_no, zokv_i, zokv_r, zokv_n, eq_self]
  · refine zEq_trans a2 ?_
    rw [← b3 94 (by decide) (by decide) (by decide) (by decide), ← p2 94 (by decide) (by decide)]
    exact s2
theorem o26 (R : Rel h) (x y w : Int32) : zOp (d + 60) 26 168 [.int x, .int y, .int w] h := by
  obtain ⟨⟨N, mk, z⟩, r, -⟩ := id R
  obtain ⟨a1, a2, a3, ⟨b1, b2, b3, b4, b5, b6⟩, a5, a6, a7, a8⟩ := id r
  have m0 := z.1.1
  have hN8 := z.1.2.1
  have h12 : h 1 12 = nI N := b4.trans m0
  rcases zwi_c x 60 (by decide) with e | ⟨n, n2, rfl, e⟩
  · exact zOp_k 1 R (by simp only [e26, q26_0, q26_1, q26_2, q26_4, q26_7, q26_10, q26_11, q26_12, q26_15, q26_18, q26_19, q26_20, q26_22, q26_25, q26_28, q26_29, q26_30, q26_33, q26_34, q26_35, q26_38, q26_39, q26_42, q26_45, q26_46, q26_49, q26_50, q26_53, q26_54, q26_57, q26_58, q26_59, q26_62, c0, e, ce_1, ce_2, ce_3, ce_4, ce_5, ce_6, cm_1, cm_2, cm_3, cm_4, cm_5, cm_6, rc_L, rc_M, zn1_0, if_true, if_false, ↓reduceIte, Option.bind_some, Option.toList_some, Option.toList_none, List.cons_append, List.nil_append, zB_go, zB_end, zB_no, zokv_i, zokv_r, zokv_n, eq_self]) fun g hg => by simp only [e168, q168_0, q168_1, q168_4, q168_7, q168_8, q168_9, q168_12, q168_15, q168_16, q168_17, q168_19, q168_22, q168_25, q168_26, q168_27, q168_28, q168_29, q168_32, q168_35, q168_36, q168_37, q168_40, c165, e, ce_1, ce_2, ce_3, ce_4, ce_5, ce_6, cm_1, cm_2, cm_3, cm_4, cm_5, cm_6, rc_L, rc_M, zn1_0, if_true, if_false, ↓reduceIte, Option.bind_some, Option.toList_some, Option.toList_none, List.cons_append, List.nil_append, zB_go, zB_end, zB_no, zokv_i, zokv_r, zokv_n, eq_self]
  rcases zpl_c y hN8 with ⟨f, f'⟩ | ⟨k, hk, rfl, f, f'⟩
  · exact zOp_k 1 R (by simp only [e26, q26_0, q26_1, q26_2, q26_4, q26_7, q26_10, q26_11, q26_12, q26_15, q26_18, q26_19, q26_20, q26_22, q26_25, q26_28, q26_29, q26_30, q26_33, q26_34, q26_35, q26_38, q26_39, q26_42, q26_45, q26_46, q26_49, q26_50, q26_53, q26_54, q26_57, q26_58, q26_59, q26_62, c0, c12', h12, e, f, ce_1, ce_2, ce_3, ce_4, ce_5, ce_6, cm_1, cm_2, cm_3, cm_4, cm_5, cm_6, rc_L, rc_M, zn1_0, if_true, if_false, ↓reduceIte, Option.bind_some, Option.toList_some, Option.toList_none, List.cons_append, List.nil_append, zB_go, zB_end, zB_no, zokv_i, zokv_r, zokv_n, eq_self]) fun g hg => by simp only [e168, q168_0, q168_1, q168_4, q168_7, q168_8, q168_9, q168_12, q168_15, q168_16, q168_17, q168_19, q168_22, q168_25, q168_26, q168_27, q168_28, q168_29, q168_32, q168_35, q168_36, q168_37, q168_40, c165, c111, hg 92 (by decide), m0, e, f', ce_1, ce_2, ce_3, ce_4, ce_5, ce_6, cm_1, cm_2, cm_3, cm_4, cm_5, cm_6, rc_L, rc_M, zn1_0, if_true, if_false, ↓reduceIte, Option.bind_some, Option.toList_some, Option.toList_none, List.cons_append, List.nil_append, zB_go, zB_end, zB_no, zokv_i, zokv_r, zokv_n, eq_self]
  rcases zwi_c w 9 (by decide) with f2 | ⟨c, hc, rfl, f2⟩
  · exact zOp_k 1 R (by simp only [e26, q26_0, q26_1, q26_2, q26_4, q26_7, q26_10, q26_11, q26_12, q26_15, q26_18, q26_19, q26_20, q26_22, q26_25, q26_28, q26_29, q26_30, q26_33, q26_34, q26_35, q26_38, q26_39, q26_42, q26_45, q26_46, q26_49, q26_50, q26_53, q26_54, q26_57, q26_58, q26_59, q26_62, c0, c12', h12, e, f, f2, ce_1, ce_2, ce_3, ce_4, ce_5, ce_6, cm_1, cm_2, cm_3, cm_4, cm_5, cm_6, rc_L, rc_M, zn1_0, if_true, if_false, ↓reduceIte, Option.bind_some, Option.toList_some, Option.toList_none, List.cons_append, List.nil_append, zB_go, zB_end, zB_no, zokv_i, zokv_r, zokv_n, eq_self]) fun g hg => by simp only [e168, q168_0, q168_1, q168_4, q168_7, q168_8, q168_9, q168_12, q168_15, q168_16, q168_17, q168_19, q168_22, q168_25, q168_26, q168_27, q168_28, q168_29, q168_32, q168_35, q168_36, q168_37, q168_40, c165, c111, c107, hg 92 (by decide), m0, e, f', f2, ce_1, ce_2, ce_3, ce_4, ce_5, ce_6, cm_1, cm_2, cm_3, cm_4, cm_5, cm_6, rc_L, rc_M, zn1_0, if_true, if_false, ↓reduceIte, Option.bind_some, Option.toList_some, Option.toList_none, List.cons_append, List.nil_append, zB_go, zB_end, zB_no, zokv_i, zokv_r, zokv_n, eq_self]
  have k8 : k < 8 := by omega
  obtain ⟨q7, hq, h7⟩ := z.2.1
  obtain ⟨h1, u1, u2, u3⟩ := c50n (d + 57) R
  obtain ⟨h2, v1, v2, v3⟩ := c70 (d + 52) (w := 49) (M := n) (h := h1) zW_49 (by omega) hq z.1 h7 u2
  obtain ⟨m, z'⟩ := zI_wks n z
  obtain ⟨h3, t1, t2⟩ := c59 (d + 53) (h := h2) zW_49 k8 (show c < 10 by omega) z'.1 v2
  have k92 : h3 92 = h 92 := by rw [t2 92 (by decide) (by decide) (by decide), v3 92 (by omega), u3 92 (by omega)]
  obtain ⟨g', s1, s2, s3⟩ := c167 (d + 49) (n := n) (k := k) (c := c) h3 (by omega) k8 (by omega) (by rw [k92]; exact z)
  rw [k92] at s1
  refine zOp_al (x := ztold (zwks n (h 92)) k c) (h1 := h3) (h2 := g') R ?_ ?_ (zAl_trans (zAl_49 u3) (zAl_trans (zAl_49 v3) (zAl_49 fun a ha => t2 a (by omega) (by omega) (by omega)))) (zAl_m s2 s3)
  · simp only [e26, q26_0, q26_1, q26_2, q26_4, q26_7, q26_10, q26_11, q26_12, q26_15, q26_18, q26_19, q26_20, q26_22, q26_25, q26_28, q26_29, q26_30, q26_33, q26_34, q26_35, q26_38, q26_39, q26_42, q26_45, q26_46, q26_49, q26_50, q26_53, q26_54, q26_57, q26_58, q26_59, q26_62, c0, c12', h12, e, f, f2, gf_L0, gf_L2, u1, v1, t1, rc_W zW_49, ce_1, ce_2, ce_3, ce_4, ce_5, ce_6, cm_1, cm_2, cm_3, cm_4, cm_5, cm_6, rc_L, rc_M, zn1_0, if_true, if_false, ↓reduceIte, Option.bind_some, Option.toList_some, Option.toList_none, List.cons_append, List.nil_append, zB_go, zB_end, zB_no, zokv_i, zokv_r, zokv_n, eq_self]
  · simp only [e168, q168_0, q168_1, q168_4, q168_7, q168_8, q168_9, q168_12, q168_15, q168_16, q168_17, q168_19, q168_22, q168_25, q168_26, q168_27, q168_28, q168_29, q168_32, q168_35, q168_36, q168_37, q168_40, c165, c111, c107, k92, m0, e, f', f2, s1, ce_1, ce_2, ce_3, ce_4, ce_5, ce_6, cm_1, cm_2, cm_3, cm_4, cm_5, cm_6, rc_L, rc_M, zn1_0, if_true, if_false, ↓reduceIte, Option.bind_some, Option.toList_some, Option.toList_none, List.cons_append, List.nil_append, zB_go, zB_end, zB_no, zokv_i, zokv_r, zokv_n, eq_self]
end O65
