/-! ===== voice ===== -/
theorem Rel_vo {h F : zH} (R : Rel h) (f : ∀ a, a ≠ 79 → a ≠ 80 → a ≠ 90 → a ≠ 91 → a ≠ 95 → a ≠ 101 → F a = h a) (g3 : F 91 3 = h 91 3) (e : zE F) (t : zTr F) : Rel F := by
  obtain ⟨⟨N, mk, z⟩, r, -, i, -, q⟩ := R
  have k := f 92 (by decide) (by decide) (by decide) (by decide) (by decide) (by decide)
  refine ⟨⟨N, mk, by rw [k]; exact z⟩, ?_, e, zIm_f i (fun a ha => f a (by omega) (by omega) (by omega) (by omega) (by omega) (by omega)) g3, t, zSh_f q fun a ha => f a (by omega) (by omega) (by omega) (by omega) (by omega) (by omega)⟩
  rw [k]
  exact zRW_keep r fun a h1 h2 _ _ _ _ => f a (by omega) (by omega) (by omega) (by omega) (by omega) (by omega)
theorem zTr_of {F : zH} {L : List Nat} (a : zTC F L) (b : zTM F L) : zTr F := ⟨min L.length 30, by omega, a.1, b.1, fun i hi => (a.2 i hi).trans (b.2 i hi).symm⟩
theorem zTC_f {h h' : zH} {L : List Nat} (c : zTC h L) (f1 : h' 79 = h 79) (f2 : h' 80 = h 80) : zTC h' L := ⟨by rw [f1]; exact c.1, by rw [f2]; exact c.2⟩
theorem zTM_f {h h' : zH} {L : List Nat} (c : zTM h L) (f1 : h' 91 = h 91) (f2 : h' 101 = h 101) : zTM h' L := ⟨by rw [f1]; exact c.1, by rw [f2]; exact c.2⟩
section O90
variable (d : Nat) {h : zH} {K M P : Nat}
theorem p96 {D : Nat} {v x z : Int32} {t : List Nat} (W : zPart D 95 [.ref 79, .int (nI K), .int v, .int x, .int z] K M P t) : zPart (D + 1) 96 [.ref 79, .int v, .int x, .int z] K M P t := fun h L s c => by
  obtain ⟨h', r, a, b⟩ := W h L s c
  exact ⟨h', r, x96 s.2.1 a, b⟩
theorem z98 (h : zH) : zSp (zup (zup (zup (zup (zup h 79 3 (nI K)) 79 4 (nI M)) 79 5 (nI P)) 79 1 (nI 0)) 79 2 (nI 0)) K M P ∧ zTC (zup (zup (zup (zup (zup h 79 3 (nI K)) 79 4 (nI M)) 79 5 (nI P)) 79 1 (nI 0)) 79 2 (nI 0)) [] := by
  refine ⟨⟨zup_at, ?_, ?_, ?_⟩, ?_, fun i hi => absurd hi (by show ¬ i < min 0 30; omega)⟩
  · rw [zup_o (by decide), zup_o (by decide), zup_o (by decide), zup_o (by decide), zup_at]
  · rw [zup_o (by decide), zup_o (by decide), zup_o (by decide), zup_at]
  · rw [zup_o (by decide), zup_o (by decide), zup_at]
  · rw [zup_o (by decide), zup_at]; rfl
theorem c98s {D : Nat} {vv x r : Int32} {t : List Nat} (W : zSaid (D + 1) 96 [.ref 79, .int vv, .int x, .int (nI 0)] K M P r t) (h : zH) : ∃ h', zCf zT znl (D + 2) 98 [.ref 79, .int (nI K), .int (nI M), .int (nI P), .int vv, .int x] h = some (some (.int r), h') ∧ h' 79 2 = nI 0 ∧ zTC h' t ∧ ∀ a, a ≠ 79 → a ≠ 80 → h' a = h a := by
  obtain ⟨s, c⟩ := z98 (K := K) (M := M) (P := P) h
  obtain ⟨h', a, b, e, f⟩ := W _ [] s c
  refine ⟨h', ?_, b.1, e, fun a q1 q2 => by rw [f a q1 q2, zup_row_ne q1, zup_row_ne q1, zup_row_ne q1, zup_row_ne q1, zup_row_ne q1]⟩
  simp only [e98, q98_0, q98_1, q98_2, q98_5, q98_6, q98_7, q98_10, q98_11, q98_12, q98_15, q98_16, q98_17, q98_20, q98_21, q98_22, q98_25, q98_26, q98_28, q98_30, q98_31, q98_34, pf_P1, pf_P2_0, pf_P3, pf_P4, pf_P5, a, rc_P, Option.bind_some, Option.toList_some, Option.toList_none, List.cons_append, List.nil_append, zB_go, zB_end, zB_no, zokv_i, zokv_r, zokv_n, eq_self]
theorem c98p {D : Nat} {vv x : Int32} {t : List Nat} (W : zPart (D + 1) 96 [.ref 79, .int vv, .int x, .int (nI 0)] K M P t) (h : zH) : ∃ h' r, zCf zT znl (D + 2) 98 [.ref 79, .int (nI K), .int (nI M), .int (nI P), .int vv, .int x] h = some (some (.int r), h') ∧ h' 79 2 = nI 1 ∧ zTC h' t ∧ ∀ a, a ≠ 79 → a ≠ 80 → h' a = h a := by
  obtain ⟨s, c⟩ := z98 (K := K) (M := M) (P := P) h
  obtain ⟨h', r, a, b, -, e, f⟩ := W _ [] s c
  refine ⟨h', r, ?_, b, e, fun a q1 q2 => by rw [f a q1 q2, zup_row_ne q1, zup_row_ne q1, zup_row_ne q1, zup_row_ne q1, zup_row_ne q1]⟩
  simp only [e98, q98_0, q98_1, q98_2, q98_5, q98_6, q98_7, q98_10, q98_11, q98_12, q98_15, q98_16, q98_17, q98_20, q98_21, q98_22, q98_25, q98_26, q98_28, q98_30, q98_31, q98_34, pf_P1, pf_P2_0, pf_P3, pf_P4, pf_P5, a, rc_P, Option.bind_some, Option.toList_some, Option.toList_none, List.cons_append, List.nil_append, zB_go, zB_end, zB_no, zokv_i, zokv_r, zokv_n, eq_self]
theorem z189 (g : zH) (c : P < 8 ∧ g 92 (90 + 8 * P + 0) = nI K ∧ g 92 (90 + 8 * P + 1) = nI M) : zMc (zup (zup (zup g 91 15 (nI 0)) 91 16 (nI P)) 91 17 (nI 0)) K M P ∧ zTM (zup (zup (zup g 91 15 (nI 0)) 91 16 (nI P)) 91 17 (nI 0)) [] ∧ zup (zup (zup g 91 15 (nI 0)) 91 16 (nI P)) 91 17 (nI 0) 91 17 = nI 0 := by
  refine ⟨⟨c.1, ?_, ?_, ?_⟩, ⟨?_, fun i hi => absurd hi (by show ¬ i < min 0 30; omega)⟩, zup_at⟩
  · rw [zup_o (by decide), zup_at]
  · rw [zup_row_ne (by decide), zup_row_ne (by decide), zup_row_ne (by decide)]; exact c.2.1
  · rw [zup_row_ne (by decide), zup_row_ne (by decide), zup_row_ne (by decide)]; exact c.2.2
  · rw [zup_o (by decide), zup_o (by decide), zup_at]; rfl
theorem z189f {g g' : zH} (f : zMf (zup (zup (zup g 91 15 (nI 0)) 91 16 (nI P)) 91 17 (nI 0)) g') : (∀ a, a ≠ 91 → a ≠ 101 → g' a = g a) ∧ g' 91 3 = g 91 3 := ⟨fun a q1 q2 => by rw [f.1 a q1 q2, zup_row_ne q1, zup_row_ne q1, zup_row_ne q1], by rw [f.2 3 (by decide) (by decide), zup_o (by decide), zup_o (by decide), zup_o (by decide)]⟩
theorem o35_s {k vv K M N mk : Nat} {x r : Int32} {t : List Nat} (hk : k < N) (hv : vv < 4) (R : Rel h) (z : zI (h 92) N mk) (q0 : h (1 + 4 + k) 0 = nI K) (q1 : h (1 + 4 + k) 1 = nI M) (cls : ∃ h', zCf zT znl (d + 59) 98 [.ref 79, .int (nI K), .int (nI M), .int (nI k), .int (nI vv), .int x] h = some (some (.int r), h') ∧ h' 79 2 = nI 0 ∧ zTC h' t ∧ ∀ a, a ≠ 79 → a ≠ 80 → h' a = h a) (mdl : ∀ g, g 92 = h 92 → ∃ g', zCf zT znl (d + 60) 189 [.ref 91, .int (nI k), .int (nI vv), .int x] g = some (some (.int r), g') ∧ zTM g' t ∧ (∀ a, a ≠ 91 → a ≠ 101 → g' a = g a) ∧ g' 91 3 = g 91 3) : zOp (d + 60) 35 189 [.int (nI k), .int (nI vv), .int x] h := by
  have hN8 := z.1.2.1
  have h12 : h 1 12 = nI N := R.2.1.2.2.2.1.2.2.2.1.trans z.1.1
  have k8 : k < 8 := by omega
  have e : zpn (nI k) (nI N) = nI 1 := by
    unfold zpn
    rw [if_neg (nI_nlt (Nat.zero_le _) (by omega)), if_neg (nI_ge hk (by omega))]
  have f : zwi (nI vv) (nI 0) (nI 3) = nI 1 := zwi_in (by omega) (by decide)
  obtain ⟨h1, a1, a2, a3, a4⟩ := cls
  obtain ⟨g, b1, b2, b3, b4⟩ := mdl h1 (a4 92 (by decide) (by decide))
  refine ⟨r, h1, g, ?_, b1, Rel_vo R (fun a p1 p2 p3 p4 p5 p6 => by rw [b3 a p4 p6, a4 a p1 p2]) (by rw [b4, a4 91 (by decide) (by decide)]) (zE_f R.2.2.1 fun a ha => by rw [b3 a (by omega) (by omega), a4 a (by omega) (by omega)]) (zTr_of (zTC_f a3 (b3 79 (by decide) (by decide)) (b3 80 (by decide) (by decide))) b2)⟩
  simp only [e35, q35_0, q35_1, q35_2, q35_5, q35_8, q35_9, q35_10, q35_11, q35_14, q35_23, q35_24, q35_27, q35_30, q35_31, q35_32, q35_34, q35_35, q35_38, q35_40, q35_41, q35_42, q35_44, q35_45, q35_46, q35_47, q35_48, q35_49, q35_52, q35_54, q35_55, q35_58, q35_61, q35_73, q35_75, c12', c0, h12, e, f, gf_L0, gf_L4, gf_W2 zW_1, aal_W zW_1 k8, ald_row zW_1 k8 (show 0 < 8 by decide), ald_row zW_1 k8 (show 1 < 8 by decide), q0, q1, a1, a2, gf_P2, rc_P, ce_1, ce_2, ce_3, ce_4, ce_5, ce_6, cm_1, cm_2, cm_3, cm_4, cm_5, cm_6, rc_L, rc_M, zn1_0, if_true, if_false, ↓reduceIte, Option.bind_some, Option.toList_some, Option.toList_none, List.cons_append, List.nil_append, zB_go, zB_end, zB_no, zokv_i, zokv_r, zokv_n, eq_self]
theorem o35_p {k K N mk : Nat} {x : Int32} {t : List Nat} (hk : k < N) (R : Rel h) (z : zI (h 92) N mk) (q0 : h (1 + 4 + k) 0 = nI K) (q1 : h (1 + 4 + k) 1 = nI k) (cls : ∃ h' r, zCf zT znl (d + 59) 98 [.ref 79, .int (nI K), .int (nI k), .int (nI k), .int (nI 3), .int x] h = some (some (.int r), h') ∧ h' 79 2 = nI 1 ∧ zTC h' t ∧ ∀ a, a ≠ 79 → a ≠ 80 → h' a = h a) (mdl : ∀ g, g 92 = h 92 → ∃ g', zCf zT znl (d + 60) 189 [.ref 91, .int (nI k), .int (nI 3), .int x] g = some (some (.int (zev 6)), zem 6 g') ∧ zTM g' t ∧ (∀ a, a ≠ 91 → a ≠ 101 → g' a = g a) ∧ g' 91 3 = g 91 3) : zOp (d + 60) 35 189 [.int (nI k), .int (nI 3), .int x] h := by
  have hN8 := z.1.2.1
  have h12 : h 1 12 = nI N := R.2.1.2.2.2.1.2.2.2.1.trans z.1.1
  have k8 : k < 8 := by omega
  have e : zpn (nI k) (nI N) = nI 1 := by
    unfold zpn
    rw [if_neg (nI_nlt (Nat.zero_le _) (by omega)), if_neg (nI_ge hk (by omega))]
  have f : zwi (nI 3) (nI 0) (nI 3) = nI 1 := zwi_in (by omega) (by decide)
  obtain ⟨h1, r, a1, a2, a3, a4⟩ := cls
  obtain ⟨g, b1, b2, b3, b4⟩ := mdl (zer 6 h1) (by rw [zer_ne (by decide)]; exact a4 92 (by decide) (by decide))
  refine ⟨zev 6, zer 6 h1, zem 6 g, ?_, b1, Rel_vo R (fun a p1 p2 p3 p4 p5 p6 => by rw [zem_ne p5, b3 a p4 p6, zer_ne p3, a4 a p1 p2]) (by rw [zem_ne (by decide), b4, zer_ne (by decide), a4 91 (by decide) (by decide)]) (fun j hj => ?_) (zTr_of (zTC_f a3 (by rw [zem_ne (by decide), b3 79 (by decide) (by decide), zer_ne (by decide)]) (by rw [zem_ne (by decide), b3 80 (by decide) (by decide), zer_ne (by decide)])) (zTM_f b2 (zem_ne (by decide)) (zem_ne (by decide))))⟩
  · simp only [e35, q35_0, q35_1, q35_2, q35_5, q35_8, q35_9, q35_10, q35_11, q35_14, q35_23, q35_24, q35_27, q35_30, q35_31, q35_32, q35_34, q35_35, q35_38, q35_40, q35_41, q35_42, q35_44, q35_45, q35_46, q35_47, q35_48, q35_49, q35_52, q35_54, q35_55, q35_58, q35_61, q35_64, q35_65, q35_67, q35_70, q35_75, c12', c0, h12, e, f, gf_L0, gf_L4, gf_W2 zW_1, aal_W zW_1 k8, ald_row zW_1 k8 (show 0 < 8 by decide), ald_row zW_1 k8 (show 1 < 8 by decide), q0, q1, a1, a2, gf_P2, rc_P, ce_1, ce_2, ce_3, ce_4, ce_5, ce_6, cm_1, cm_2, cm_3, cm_4, cm_5, cm_6, rc_L, rc_M, zn1_0, if_true, if_false, ↓reduceIte, Option.bind_some, Option.toList_some, Option.toList_none, List.cons_append, List.nil_append, zB_go, zB_end, zB_no, zokv_i, zokv_r, zokv_n, eq_self]
  · rw [zem_ne (by decide), b3 90 (by decide) (by decide)]
    unfold zem
    rw [b3 95 (by decide) (by decide), zer_ne (show 95 ≠ 90 by decide), a4 95 (by decide) (by decide)]
    unfold zer
    rw [a4 90 (by decide) (by decide)]
    have E := R.2.2.1
    by_cases y : j = 6
    · subst y; rw [zup_at, zup_at, E 6 hj]
    · rw [zup_o y, zup_o y, b3 95 (by decide) (by decide), a4 90 (by decide) (by decide), E j hj]
      show _ = zer 6 h1 95 j
      rw [zer_ne (by decide), a4 95 (by decide) (by decide)]
theorem o35 (R : Rel h) (x y w : Int32) : zOp (d + 60) 35 189 [.int x, .int y, .int w] h := by
  obtain ⟨⟨N, mk, z⟩, r, -⟩ := id R
  obtain ⟨a1, a2, a3, ⟨b1, b2, b3, b4, b5, b6⟩, a5, a6, a7, a8⟩ := id r
  have m0 := z.1.1
  have hN8 := z.1.2.1
  have h12 : h 1 12 = nI N := b4.trans m0
  rcases zpl_c x hN8 with ⟨e, e'⟩ | ⟨k, hk, rfl, e, e'⟩
  · exact zOp_k 1 R (by simp only [e35, q35_0, q35_1, q35_2, q35_5, q35_17, q35_18, q35_19, q35_22, c12', h12, e, ce_1, ce_2, ce_3, ce_4, ce_5, ce_6, cm_1, cm_2, cm_3, cm_4, cm_5, cm_6, rc_L, rc_M, zn1_0, if_true, if_false, ↓reduceIte, Option.bind_some, Option.toList_some, Option.toList_none, List.cons_append, List.nil_append, zB_go, zB_end, zB_no, zokv_i, zokv_r, zokv_n, eq_self]) fun g hg => by simp only [e189, q189_0, q189_1, q189_2, q189_5, q189_17, q189_18, q189_19, q189_22, c111, hg 92 (by decide), m0, e', ce_1, ce_2, ce_3, ce_4, ce_5, ce_6, cm_1, cm_2, cm_3, cm_4, cm_5, cm_6, rc_L, rc_M, zn1_0, if_true, if_false, ↓reduceIte, Option.bind_some, Option.toList_some, Option.toList_none, List.cons_append, List.nil_append, zB_go, zB_end, zB_no, zokv_i, zokv_r, zokv_n, eq_self]
  rcases zwi_c y 3 (by decide) with f | ⟨vv, hv, rfl, f⟩
  · exact zOp_k 1 R (by simp only [e35, q35_0, q35_1, q35_2, q35_5, q35_8, q35_9, q35_10, q35_11, q35_14, q35_17, q35_18, q35_19, q35_22, c12', c0, h12, e, f, ce_1, ce_2, ce_3, ce_4, ce_5, ce_6, cm_1, cm_2, cm_3, cm_4, cm_5, cm_6, rc_L, rc_M, zn1_0, if_true, if_false, ↓reduceIte, Option.bind_some, Option.toList_some, Option.toList_none, List.cons_append, List.nil_append, zB_go, zB_end, zB_no, zokv_i, zokv_r, zokv_n, eq_self]) fun g hg => by simp only [e189, q189_0, q189_1, q189_2, q189_5, q189_8, q189_9, q189_10, q189_11, q189_14, q189_17, q189_18, q189_19, q189_22, c111, c107, hg 92 (by decide), m0, e', f, ce_1, ce_2, ce_3, ce_4, ce_5, ce_6, cm_1, cm_2, cm_3, cm_4, cm_5, cm_6, rc_L, rc_M, zn1_0, if_true, if_false, ↓reduceIte, Option.bind_some, Option.toList_some, Option.toList_none, List.cons_append, List.nil_append, zB_go, zB_end, zB_no, zokv_i, zokv_r, zokv_n, eq_self]
  have k8 : k < 8 := by omega
  obtain ⟨K, M, hm, vo, ho, gd, hu, l0, l1, l2, l3, l4, l5, l7, p0, p1, p2, p3, p4, p5, p7⟩ := z.1.2.2.2.2.1 k k8
  have q0 : h (1 + 4 + k) 0 = nI K := (a3 k k8 0 (by decide)).trans p0
  have q1 : h (1 + 4 + k) 1 = nI M := (a3 k k8 1 (by decide)).trans p1
  obtain rfl | rfl | rfl | rfl : vv = 0 ∨ vv = 1 ∨ vv = 2 ∨ vv = 3 := by omega
  · refine o35_s d hk (by decide) R z q0 q1 (c98s (s96 (fC (d + 48) (K := K) (M := M) (P := k) (x := w) (dep := 0) l0 (by decide))) h) fun g hg => ?_
    obtain ⟨c1, c2, c3⟩ := z189 (K := K) (M := M) (P := k) g ⟨k8, by rw [hg]; exact p0, by rw [hg]; exact p1⟩
    obtain ⟨g', d1, d2, d3, d4⟩ := mC (d + 55) (K := K) (M := M) (P := k) (x := w) l0 _ [] c1 c2 c3
    refine ⟨g', ?_, d2, z189f d4⟩
    have kn := fun d => c183 d c1
    simp (decide := true) only [e189, q189_0, q189_1, q189_2, q189_5, q189_8, q189_9, q189_10, q189_11, q189_14, q189_23, q189_24, q189_25, q189_28, q189_29, q189_30, q189_33, q189_34, q189_35, q189_38, q189_39, q189_42, q189_44, q189_45, q189_48, q189_49, q189_51, q189_52, q189_55, q189_95, q189_97, q189_98, q189_101, q189_113, q189_115, c111, c107, hg, m0, e', f, pf_M15, pf_M16, pf_M17_0, gf_M17, kn, d1, d3, rc_M, zn1_0, if_true, if_false, ↓reduceIte, Option.bind_some, Option.toList_some, Option.toList_none, List.cons_append, List.nil_append, zB_go, zB_end, zB_no, zokv_i, zokv_r, zokv_n, eq_self]
  · refine o35_s d hk (by decide) R z q0 q1 (c98s (s96 (fG (d + 42) l0 (K := K) (M := M) (P := k) (x := w) (dep := 0) l0 (by decide))) h) fun g hg => ?_
    obtain ⟨c1, c2, c3⟩ := z189 (K := K) (M := M) (P := k) g ⟨k8, by rw [hg]; exact p0, by rw [hg]; exact p1⟩
    obtain ⟨g', d1, d2, d3, d4⟩ := mG (d + 52) l0 (K := K) (M := M) (P := k) (x := w) l0 _ [] c1 c2 c3
    refine ⟨g', ?_, d2, z189f d4⟩
    have kn := fun d => c183 d c1
    simp (decide := true) only [e189, q189_0, q189_1, q189_2, q189_5, q189_8, q189_9, q189_10, q189_11, q189_14, q189_23, q189_24, q189_25, q189_28, q189_29, q189_30, q189_33, q189_34, q189_35, q189_38, q189_39, q189_42, q189_44, q189_45, q189_58, q189_59, q189_60, q189_63, q189_64, q189_66, q189_67, q189_70, q189_95, q189_97, q189_98, q189_101, q189_113, q189_115, c111, c107, hg, m0, e', f, pf_M15, pf_M16, pf_M17_0, gf_M17, kn, d1, d3, rc_M, zn1_0, if_true, if_false, ↓reduceIte, Option.bind_some, Option.toList_some, Option.toList_none, List.cons_append, List.nil_append, zB_go, zB_end, zB_no, zokv_i, zokv_r, zokv_n, eq_self]
  · refine o35_s d hk (by decide) R z q0 q1 (c98s (s96 (fR (d + 36) l0 (K := K) (M := M) (P := k) (x := w) (dep := 0) l0 (by decide))) h) fun g hg => ?_
    obtain ⟨c1, c2, c3⟩ := z189 (K := K) (M := M) (P := k) g ⟨k8, by rw [hg]; exact p0, by rw [hg]; exact p1⟩
    obtain ⟨g', d1, d2, d3, d4⟩ := mR (d + 49) l0 (K := K) (M := M) (P := k) (x := w) l0 _ [] c1 c2 c3
    refine ⟨g', ?_, d2, z189f d4⟩
    have kn := fun d => c183 d c1
    simp (decide := true) only [e189, q189_0, q189_1, q189_2, q189_5, q189_8, q189_9, q189_10, q189_11, q189_14, q189_23, q189_24, q189_25, q189_28, q189_29, q189_30, q189_33, q189_34, q189_35, q189_38, q189_39, q189_42, q189_44, q189_45, q189_58, q189_59, q189_60, q189_73, q189_74, q189_75, q189_78, q189_79, q189_81, q189_82, q189_85, q189_95, q189_97, q189_98, q189_101, q189_113, q189_115, c111, c107, hg, m0, e', f, pf_M15, pf_M16, pf_M17_0, gf_M17, kn, d1, d3, rc_M, zn1_0, if_true, if_false, ↓reduceIte, Option.bind_some, Option.toList_some, Option.toList_none, List.cons_append, List.nil_append, zB_go, zB_end, zB_no, zokv_i, zokv_r, zokv_n, eq_self]
  · by_cases ne : M = k
    · subst ne
      refine o35_p d hk R z q0 q1 (c98p (p96 (fQ (d + 33) (K := K) (P := M) (x := w) (dep := 0) l0 (by decide))) h) fun g hg => ?_
      obtain ⟨c1, c2, c3⟩ := z189 (K := K) (M := M) (P := M) g ⟨k8, by rw [hg]; exact p0, by rw [hg]; exact p1⟩
      obtain ⟨g', v', d1, d2, d3, d4⟩ := mQ (d + 48) (K := K) (P := M) (x := w) l0 _ [] c1 c2 c3
      refine ⟨g', ?_, d2, z189f d4⟩
      have kn := fun d => c183 d c1
      have nz : ¬ nI 1 = nI 0 := by decide
      simp (decide := true) only [e189, q189_0, q189_1, q189_2, q189_5, q189_8, q189_9, q189_10, q189_11, q189_14, q189_23, q189_24, q189_25, q189_28, q189_29, q189_30, q189_33, q189_34, q189_35, q189_38, q189_39, q189_42, q189_44, q189_45, q189_58, q189_59, q189_60, q189_73, q189_74, q189_75, q189_88, q189_89, q189_91, q189_92, q189_95, q189_97, q189_98, q189_101, q189_104, q189_105, q189_107, q189_110, q189_115, c111, c107, hg, m0, e', f, pf_M15, pf_M16, pf_M17_0, gf_M17, kn, d1, d3, nz, cm_6, rc_M, zn1_0, if_true, if_false, ↓reduceIte, Option.bind_some, Option.toList_some, Option.toList_none, List.cons_append, List.nil_append, zB_go, zB_end, zB_no, zokv_i, zokv_r, zokv_n, eq_self]
    · refine o35_s d hk (by decide) R z q0 q1 (c98s (s96 (fP (d + 33) (K := K) (M := M) (P := k) (x := w) (dep := 0) l0 (by omega) (by omega) ne l0 (by decide))) h) fun g hg => ?_
      obtain ⟨c1, c2, c3⟩ := z189 (K := K) (M := M) (P := k) g ⟨k8, by rw [hg]; exact p0, by rw [hg]; exact p1⟩
      obtain ⟨g', d1, d2, d3, d4⟩ := mP (d + 48) (K := K) (M := M) (P := k) (x := w) l0 (by omega) (by omega) ne l0 _ [] c1 c2 c3
      refine ⟨g', ?_, d2, z189f d4⟩
      have kn := fun d => c183 d c1
      simp (decide := true) only [e189, q189_0, q189_1, q189_2, q189_5, q189_8, q189_9, q189_10, q189_11, q189_14, q189_23, q189_24, q189_25, q189_28, q189_29, q189_30, q189_33, q189_34, q189_35, q189_38, q189_39, q189_42, q189_44, q189_45, q189_58, q189_59, q189_60, q189_73, q189_74, q189_75, q189_88, q189_89, q189_91, q189_92, q189_95, q189_97, q189_98, q189_101, q189_113, q189_115, c111, c107, hg, m0, e', f, pf_M15, pf_M16, pf_M17_0, gf_M17, kn, d1, d3, rc_M, zn1_0, if_true, if_false, ↓reduceIte, Option.bind_some, Option.toList_some, Option.toList_none, List.cons_append, List.nil_append, zB_go, zB_end, zB_no, zokv_i, zokv_r, zokv_n, eq_self]
end O90
