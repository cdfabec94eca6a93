/-! ===== whose, image, restore ===== -/
theorem zni_m1 {n : Nat} (h : n < 1000) : ¬ nI n = -1 := fun e => by
  have := congrArg Int32.toInt e
  rw [nI_toInt (by omega)] at this
  have k : (-1 : Int32).toInt = -1 := by decide
  omega
theorem zud_zud {s : Nat → Int32} {i : Nat} {x y : Int32} : zud (zud s i x) i y = zud s i y := by
  funext k
  by_cases a : k = i
  · subst a; rw [zud_at, zud_at]
  · rw [zud_ne a, zud_ne a, zud_ne a]
theorem zud_self {s : Nat → Int32} {i : Nat} : zud s i (s i) = s := by
  funext k
  by_cases a : k = i
  · subst a; rw [zud_at]
  · rw [zud_ne a]
section O66
variable (d : Nat) {h : zH}
theorem c109x {a b : Nat} {h : zH} (ha : zSR a) (hb : zSR b) (hab : a ≠ b) : ∃ h', zCf zT znl (d + 1) 109 [.ref a, .ref b] h = some (none, h') ∧ (∀ i, h' b i = if i < 488 then h a i else h b i) ∧ ∀ x, x ≠ b → h' x = h x := by
  obtain ⟨h', f1, f2, f3⟩ := w109 d ha hb hab 488 0 h rfl
  refine ⟨h', ?_, fun i => ?_, f3⟩
  · rw [← f1]
    simp only [e109, q109_0, q109_1, Option.bind_some, Option.toList_some, Option.toList_none, List.cons_append, List.nil_append, zB_go, zB_end, zB_no, zokv_i, zokv_r, zokv_n, eq_self]
  · rw [f2 i]
    by_cases y : i < 488
    · rw [if_pos ⟨Nat.zero_le _, y⟩, if_pos y]
    · rw [if_neg (fun q => y q.2), if_neg y]
/-- carried off, gone on, carried back: the row stands -/
theorem zback {g g1 g2 g3 : zH} {s : Nat → Int32} (e0 : g 92 = s) (a2 : ∀ i, g1 94 i = if i < 488 then g 92 i else g 94 i) (k94 : g2 94 = g1 94) (hi : ∀ i, 488 ≤ i → g2 92 i = s i) (p2 : ∀ i, g3 92 i = if i < 488 then g2 94 i else g2 92 i) : g3 92 = s := by
  funext i
  rw [p2 i]
  by_cases y : i < 488
  · rw [if_pos y, k94, a2 i, if_pos y, e0]
  · rw [if_neg y]; exact hi i (by omega)
theorem c109sx (h : zH) : ∃ h', zCf zT znl (d + 1) 109 [.ref 92, .ref 94] h = some (none, h') ∧ (∀ i, h' 94 i = if i < 488 then h 92 i else h 94 i) ∧ ∀ x, x ≠ 94 → h' x = h x := c109x d (Or.inl rfl) (Or.inr (Or.inr rfl)) (by decide)
theorem c109bx (h : zH) : ∃ h', zCf zT znl (d + 1) 109 [.ref 94, .ref 92] h = some (none, h') ∧ (∀ i, h' 92 i = if i < 488 then h 94 i else h 92 i) ∧ ∀ x, x ≠ 92 → h' x = h x := c109x d (Or.inr (Or.inr rfl)) (Or.inl rfl) (by decide)
theorem c167x {n k c N mk : Nat} (g : zH) (hn : n < 100) (hk : k < 8) (hc : c < 10) (z : zI (g 92) N mk) : ∃ g', zCf zT znl (d + 10) 167 [.ref 91, .int (nI n), .int (nI k), .int (nI c)] g = some (some (.int (ztold (zwks n (g 92)) k c)), g') ∧ g' 92 = g 92 ∧ ∀ a, a ≠ 92 → a ≠ 94 → a ≠ 97 → a ≠ 98 → a ≠ 99 → g' a = g a := by
  obtain ⟨q7, hq, h7⟩ := z.2.1
  obtain ⟨g1, a1, a2, a3⟩ := c109sx (d + 8) g
  have k1 : g1 92 = g 92 := a3 92 (by decide)
  obtain ⟨g2, b1, b2, b3⟩ := c160 (d + 1) (h := g1) (M := n) (by omega) hq (by rw [k1]; exact z.1) (by rw [k1]; exact h7)
  rw [k1] at b2
  obtain ⟨m, z'⟩ := zI_wks n z
  obtain ⟨g3, p1, p2⟩ := c132 (d + 3) (h := g2) hk hc (by rw [b2]; exact z'.1)
  rw [b2] at p1
  obtain ⟨g4, s1, s2, s3⟩ := c109bx (d + 8) g3
  refine ⟨g4, ?_, ?_, fun a i1 i2 i3 i4 i5 => by rw [s3 a i1, p2 a i3 i4, b3 a i1 i3 i4 i5, a3 a i2]⟩
  · simp only [e167, q167_0, q167_1, q167_4, q167_5, q167_8, q167_11, q167_12, q167_13, q167_16, q167_17, q167_18, q167_19, q167_22, q167_24, q167_25, q167_28, q167_29, q167_32, q167_35, q167_37, gf_M0, gf_M2, a1, b1, p1, s1, ce_1, ce_2, ce_3, ce_4, ce_5, ce_6, cm_1, cm_2, cm_3, cm_4, cm_5, cm_6, rc_L, rc_M, zn1_0, if_true, if_false, ↓reduceIte, Option.bind_some, Option.toList_some, Option.toList_none, List.cons_append, List.nil_append, zB_go, zB_end, zB_no, zokv_i, zokv_r, zokv_n, eq_self]
  · refine zback rfl a2 ?_ ?_ s2
    · rw [p2 94 (by decide) (by decide), b3 94 (by decide) (by decide) (by decide) (by decide)]
    · intro i hi
      rw [p2 92 (by decide) (by decide), b2]
      exact zwks_hi n z.1 (by omega)
theorem o27 (R : Rel h) : zOp (d + 60) 27 169 [] h := by
  obtain ⟨⟨N, mk, z⟩, r, -⟩ := id R
  obtain ⟨a1, a2, a3, ⟨b1, b2, b3, b4, b5, b6⟩, a5, a6, a7, a8⟩ := id r
  have e6 : h (1 + 2) 0 = h 92 6 := a2 0 (by decide)
  obtain ⟨⟨m0, hN8, m1, lk, hP, t0, t1⟩, -⟩ := id z
  have h12 : h 1 12 = nI N := b4.trans m0
  by_cases q : h 92 6 = nI 1
  · have kz : zer 2 h 92 = h 92 := zer_ne (by decide)
    obtain ⟨g, g1, g2, -⟩ := c151 (d + 53) (h := zer 2 h) (N := N) (mk := mk) (by rw [kz]; exact m0) hN8 (by rw [kz]; exact m1) lk (by rw [kz]; exact hP) (by rw [kz]; exact t0) (by rw [kz]; exact t1)
    have k92 : g 92 = h 92 := by rw [g2 92 (by decide) (by decide) (by decide), kz]
    refine zOp_ale 2 (h1 := h) (g := g) R ?_ ?_ (zAl_refl h) (zAl_m (by rw [k92, kz]; exact zEq_refl _) fun a _ _ i3 i4 i5 => g2 a i3 i4 i5)
    · simp only [e27, q27_0, q27_1, q27_4, q27_7, q27_8, q27_9, q27_10, q27_13, q27_14, q27_15, q27_18, gf_L0, gf_W1 zW_1, ald_W2 zW_1 (show 0 < 3 by decide), e6, q, ce_1, ce_2, ce_3, ce_4, ce_5, ce_6, cm_1, cm_2, cm_3, cm_4, cm_5, cm_6, rc_L, rc_M, zn1_0, if_true, if_false, ↓reduceIte, Option.bind_some, Option.toList_some, Option.toList_none, List.cons_append, List.nil_append, zB_go, zB_end, zB_no, zokv_i, zokv_r, zokv_n, eq_self]
    · simp only [e169, q169_0, q169_1, q169_4, q169_5, q169_8, q169_10, q169_11, q169_12, q169_23, q169_24, q169_25, q169_28, q169_35, g1, gf_M0, ald_n92 (show 6 < 488 by decide), k92, q, ce_1, ce_2, ce_3, ce_4, ce_5, ce_6, cm_1, cm_2, cm_3, cm_4, cm_5, cm_6, rc_L, rc_M, zn1_0, if_true, if_false, ↓reduceIte, Option.bind_some, Option.toList_some, Option.toList_none, List.cons_append, List.nil_append, zB_go, zB_end, zB_no, zokv_i, zokv_r, zokv_n, eq_self]
  · obtain ⟨h1, u1, u2, u3⟩ := c62 (d + 53) (s := h 92) (w := 1) zW_1 m0 hN8 m1 lk hP t0 t1 r
    have h112 : h1 1 12 = nI N := by rw [u2 1 (by decide) (by decide) (by decide) (by decide)]; exact h12
    have zb : zld (h1 (1 + 21)) (-1) (nI 0) 0 N = zbest (h 92) := by
      unfold zbest
      rw [zn_of m0 (by omega)]
      exact zld_congr N 0 _ _ fun i _ hi => u3 i (by omega)
    have v1 := fun d => c63 d (h := h1) zW_1 h112 hN8
    have A1 : zAl h h1 := zAl_of fun a ha => u2 a (by unfold zsg at ha; omega) (by unfold zsg at ha; omega) (by unfold zsg at ha; omega) (by unfold zsg at ha; omega)
    have c1 : zCf zT znl (d + 60) 27 [.ref 0] h = (if nI 0 ≤ zbest (h 92) then some (some (.int (zbest (h 92))), h1) else some (some (.int (zev 2)), zer 2 h1)) := by
      simp only [e27, q27_0, q27_1, q27_4, q27_7, q27_8, q27_9, q27_10, q27_13, q27_14, q27_15, q27_18, q27_19, q27_20, q27_23, q27_26, q27_27, q27_30, q27_33, q27_34, q27_35, q27_38, q27_39, q27_40, q27_43, q27_46, q27_47, gf_L0, gf_W1 zW_1, ald_W2 zW_1 (show 0 < 3 by decide), e6, q, u1, v1, zb, rc_W zW_1, ce_1, ce_2, ce_3, ce_4, ce_5, ce_6, cm_1, cm_2, cm_3, cm_4, cm_5, cm_6, rc_L, rc_M, zn1_0, if_true, if_false, ↓reduceIte, Option.bind_some, Option.toList_some, Option.toList_none, List.cons_append, List.nil_append, zB_go, zB_end, zB_no, zokv_i, zokv_r, zokv_n, eq_self]
    have m : ∀ g0 : zH, g0 92 = h 92 → ∃ g, (∀ a, a ≠ 97 → a ≠ 98 → a ≠ 99 → g a = g0 a) ∧ zCf zT znl (d + 60) 169 [.ref 91] g0 = (if zbest (h 92) = -1 then some (some (.int (zev 2)), zem 2 g) else some (some (.int (zbest (h 92))), g)) := by
      intro g0 kz
      obtain ⟨g, g1, g2, g3⟩ := c151 (d + 53) (h := g0) (N := N) (mk := mk) (by rw [kz]; exact m0) hN8 (by rw [kz]; exact m1) lk (by rw [kz]; exact hP) (by rw [kz]; exact t0) (by rw [kz]; exact t1)
      have k92 : g 92 = h 92 := by rw [g2 92 (by decide) (by decide) (by decide), kz]
      refine ⟨g, g2, ?_⟩
      have zb' : zld (g 99) (-1) (nI 0) 0 N = zbest (h 92) := by
        unfold zbest
        rw [zn_of m0 (by omega)]
        exact zld_congr N 0 _ _ fun i _ hi => by rw [g3 i (by omega), kz]
      have v2 := fun d => c152 d (h := g) (N := N) (by rw [k92]; exact m0) hN8
      simp only [e169, q169_0, q169_1, q169_4, q169_5, q169_8, q169_10, q169_11, q169_12, q169_15, q169_16, q169_19, q169_20, q169_23, q169_24, q169_25, q169_28, q169_31, q169_32, q169_35, g1, gf_M0, ald_n92 (show 6 < 488 by decide), k92, q, v2, zb', ce_1, ce_2, ce_3, ce_4, ce_5, ce_6, cm_1, cm_2, cm_3, cm_4, cm_5, cm_6, rc_L, rc_M, zn1_0, if_true, if_false, ↓reduceIte, Option.bind_some, Option.toList_some, Option.toList_none, List.cons_append, List.nil_append, zB_go, zB_end, zB_no, zokv_i, zokv_r, zokv_n, eq_self]
    rcases zbest_v m0 hN8 with b | ⟨i, hi, b⟩
    · rw [b] at c1 m
      rw [if_neg (by decide)] at c1
      obtain ⟨g, g1, g2⟩ := m (zer 2 h1) (by rw [zer_ne (by decide)]; exact u2 92 (by decide) (by decide) (by decide) (by decide))
      rw [if_pos rfl] at g2
      exact zOp_ale 2 R c1 g2 A1 (zAl_m (by rw [g1 92 (by decide) (by decide) (by decide)]; exact zEq_refl _) fun a _ _ i3 i4 i5 => g1 a i3 i4 i5)
    · rw [b] at c1 m
      rw [if_pos (nI_le (Nat.zero_le _) (by omega))] at c1
      obtain ⟨g, g1, g2⟩ := m h1 (u2 92 (by decide) (by decide) (by decide) (by decide))
      rw [if_neg (zni_m1 (by omega))] at g2
      exact zOp_al R c1 g2 A1 (zAl_m (by rw [g1 92 (by decide) (by decide) (by decide)]; exact zEq_refl _) fun a _ _ i3 i4 i5 => g1 a i3 i4 i5)
theorem o43 (R : Rel h) : zOp (d + 60) 43 198 [] h := by
  obtain ⟨⟨N, mk, z⟩, r, e, ⟨i1, i2⟩, t, q⟩ := id R
  obtain ⟨h1, u1, u2, u3⟩ := c50 (d + 57) (a := 25) (b := 1) (s := h 92) (h := h) zW_25 zW_1 (by decide) r
  have k0 : h1 0 = h 0 := u3 0 (by decide)
  have k08 : h1 0 8 = h 91 3 := by rw [k0]; exact i1
  obtain ⟨G, eG⟩ : ∃ G, zup h1 0 8 (h 91 3 + nI 1) = G := ⟨_, rfl⟩
  have fG : ∀ x, x ≠ 0 → G x = h1 x := fun x p => by rw [← eG, zup_row_ne p]
  obtain ⟨h2, v1, v2, v3⟩ := c109 (d + 58) (a := 92) (b := 93) (h := G) (Or.inl rfl) (Or.inr (Or.inl rfl)) (by decide)
  have k91 : h2 91 = h 91 := by rw [v3 91 (by decide), fG 91 (by decide), u3 91 (by decide)]
  obtain ⟨F, eF⟩ : ∃ F, zup h2 91 3 (h 91 3 + nI 1) = F := ⟨_, rfl⟩
  have f2 : ∀ x, x ≠ 93 → x ≠ 91 → x ≠ 0 → ¬ (25 ≤ x ∧ x < 49) → F x = h x := fun x p1 p2 p3 p4 => by rw [← eF, zup_row_ne p2, v3 x p1, fG x p3, u3 x p4]
  refine ⟨h 91 3 + nI 1, G, F, ?_, ?_, ?_⟩
  · simp only [e43, q43_0, q43_1, q43_4, q43_5, q43_8, q43_11, q43_12i, q43_12r, q43_13, q43_16, q43_17, q43_18, q43_21, q43_22, q43_25, gf_L0, gf_L1, gf_L8, pf_L8, u1, zup_at, k08, eG, rc_W zW_25, Option.bind_some, Option.toList_some, Option.toList_none, List.cons_append, List.nil_append, zB_go, zB_end, zB_no, zokv_i, zokv_r, zokv_n, eq_self]
  · simp only [e198, q198_0, q198_1, q198_4, q198_5, q198_8, q198_11, q198_12i, q198_12r, q198_13, q198_16, q198_17, q198_18, q198_21, q198_22, q198_25, gf_M0, gf_M1, gf_M3, pf_M3, v1, zup_at, k91, eF, Option.bind_some, Option.toList_some, Option.toList_none, List.cons_append, List.nil_append, zB_go, zB_end, zB_no, zokv_i, zokv_r, zokv_n, eq_self]
  · have e93 : zEq (h 92) (F 93) := fun i hi => by rw [← eF, zup_row_ne (by decide), v2 i hi, fG 92 (by decide), u3 92 (by decide)]
    refine ⟨⟨N, mk, by rw [f2 92 (by decide) (by decide) (by decide) (by decide)]; exact z⟩, ?_, zE_f e fun a ha => f2 a (by omega) (by omega) (by omega) (by omega), ⟨?_, Or.inr ⟨N, mk, zI_eq e93 z, zRWI_eq e93 z (zRW_keep u2 fun a p1 p2 _ _ _ _ => by rw [← eF, zup_row_ne (by omega), v3 a (by omega), fG a (by omega)])⟩⟩, zTr_f t (fun a ha => f2 a (by omega) (by omega) (by omega) (by omega)) (by rw [← eF, zup_o (by decide), k91]), zSh_f q fun a ha => f2 a (by omega) (by omega) (by omega) (by omega)⟩
    · rw [f2 92 (by decide) (by decide) (by decide) (by decide)]
      exact zRW_keep r fun a p1 p2 _ _ _ _ => f2 a (by omega) (by omega) (by omega) (by omega)
    · rw [← eF, zup_at, zup_row_ne (by decide), v3 0 (by decide), ← eG, zup_at]
theorem o44 (R : Rel h) : zOp (d + 60) 44 199 [] h := by
  obtain ⟨-, -, -, ⟨i1, i2⟩, -⟩ := id R
  by_cases n : h 91 3 = nI 0
  · exact zOp_k 2 R (by simp only [e44, q44_0, q44_1, q44_4, q44_7, q44_8, q44_9, q44_12, q44_13, q44_14, q44_17, q44_18, q44_21, q44_24, q44_25, q44_28, q44_31, gf_L8, i1, n, ce_1, ce_2, ce_3, ce_4, ce_5, ce_6, cm_1, cm_2, cm_3, cm_4, cm_5, cm_6, rc_L, rc_M, zn1_0, if_true, if_false, ↓reduceIte, Option.bind_some, Option.toList_some, Option.toList_none, List.cons_append, List.nil_append, zB_go, zB_end, zB_no, zokv_i, zokv_r, zokv_n, eq_self]) fun g hg => by simp only [e199, q199_0, q199_1, q199_4, q199_7, q199_8, q199_9, q199_12, q199_13, q199_14, q199_17, q199_18, q199_21, q199_24, q199_25, q199_28, q199_29, q199_30, gf_M3, hg 91 (by decide), n, ce_1, ce_2, ce_3, ce_4, ce_5, ce_6, cm_1, cm_2, cm_3, cm_4, cm_5, cm_6, rc_L, rc_M, zn1_0, if_true, if_false, ↓reduceIte, Option.bind_some, Option.toList_some, Option.toList_none, List.cons_append, List.nil_append, zB_go, zB_end, zB_no, zokv_i, zokv_r, zokv_n, eq_self]
  · rcases i2 with i2 | ⟨N, mk, z, r⟩
    · exact absurd i2 n
    · obtain ⟨h1, u1, u2, u3⟩ := c50 (d + 57) (a := 1) (b := 25) (s := h 93) (h := h) zW_1 zW_25 (by decide) r
      obtain ⟨h2, v1, v2, v3⟩ := c109 (d + 58) (a := 93) (b := 92) (h := h1) (Or.inr (Or.inl rfl)) (Or.inl rfl) (by decide)
      have k91 : h1 91 = h 91 := u3 91 (by decide)
      have e92 : zEq (h 93) (h2 92) := fun i hi => by rw [v2 i hi, u3 93 (by decide)]
      have r10 := u2.2.2.2.1.2.1
      refine ⟨h 93 2, h1, h2, ?_, ?_, Rel_row (N := N) (mk := mk) R (zI_eq e92 z) (zRWI_eq e92 z (zRW_keep u2 fun a p1 p2 _ _ _ _ => v3 a (by omega))) fun a ha => by rw [v3 a (by omega), u3 a (by omega)]⟩
      · simp only [e44, q44_0, q44_1, q44_4, q44_7, q44_8, q44_9, q44_12, q44_13, q44_14, q44_17, q44_18, q44_21, q44_24, q44_25, q44_28, q44_31, gf_L0, gf_L1, gf_L8, i1, n, u1, gf_W10 zW_1, r10, rc_W zW_1, ce_1, ce_2, ce_3, ce_4, ce_5, ce_6, cm_1, cm_2, cm_3, cm_4, cm_5, cm_6, rc_L, rc_M, zn1_0, if_true, if_false, ↓reduceIte, Option.bind_some, Option.toList_some, Option.toList_none, List.cons_append, List.nil_append, zB_go, zB_end, zB_no, zokv_i, zokv_r, zokv_n, eq_self]
      · simp only [e199, q199_0, q199_1, q199_4, q199_7, q199_8, q199_9, q199_12, q199_13, q199_14, q199_17, q199_18, q199_21, q199_24, q199_25, q199_28, q199_29, q199_30, gf_M0, gf_M1, gf_M3, k91, n, v1, ald_n92 (show 2 < 488 by decide), e92 2 (by decide), ce_1, ce_2, ce_3, ce_4, ce_5, ce_6, cm_1, cm_2, cm_3, cm_4, cm_5, cm_6, rc_L, rc_M, zn1_0, if_true, if_false, ↓reduceIte, Option.bind_some, Option.toList_some, Option.toList_none, List.cons_append, List.nil_append, zB_go, zB_end, zB_no, zokv_i, zokv_r, zokv_n, eq_self]
end O66
