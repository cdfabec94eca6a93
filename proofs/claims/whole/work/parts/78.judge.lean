/-! ===== judge, voices ===== -/
def zjd (f : Nat → Int32) : Nat → Nat → (Nat → Int32) → Nat
  | 0, i, _ => i
  | m + 1, i, s => if f i = zweek s 1 then zjd f m (i + 1) (zweek s) else i
def zvn (f : Nat → Int32) : Nat → Nat → Nat
  | 0, i => i
  | m + 1, i => if zwi (f i) (nI 0) (nI 99) = nI 1 then zvn f m (i + 1) else i
def zvs (f : Nat → Int32) : Nat → Nat → (Nat → Int32) → Nat → Int32
  | 0, _, s => s
  | m + 1, i, s => if zwi (f i) (nI 0) (nI 99) = nI 1 then zvs f m (i + 1) (zud s (90 + 8 * i + 3) (f i)) else s
theorem zwi_01' (x y z : Int32) : zwi x y z = nI 0 ∨ zwi x y z = nI 1 := zwi_01
section O78
variable (d : Nat) {h : zH}
theorem c195 {k : Nat} (hk : k < 4) (h : zH) : zCf zT znl (d + 3) 195 [.ref 91, .int (nI k)] h = some (some (.int (if h 102 k = nI 0 then nI 2 else nI 0)), h) := by
  have e : zwi (nI k) (nI 0) (nI 3) = nI 1 := zwi_in (by omega) (by decide)
  by_cases q : h 102 k = nI 0
  · simp only [e195, q195_0, q195_1, q195_4, q195_7, q195_8, q195_11, q195_12, q195_15, q195_16, q195_17, q195_20, q195_21, q195_24, q195_25, c191, e, gf_M18, ald_n102 hk, q, zn1_0, if_true, if_false, ↓reduceIte, Option.bind_some, Option.toList_some, Option.toList_none, List.cons_append, List.nil_append, zB_go, zB_end, zB_no, zokv_i, zokv_r, zokv_n, eq_self]
  · simp only [e195, q195_0, q195_1, q195_4, q195_7, q195_8, q195_11, q195_12, q195_15, q195_16, q195_17, q195_20, q195_21, q195_24, q195_25, c191, e, gf_M18, ald_n102 hk, q, zn1_0, if_true, if_false, ↓reduceIte, Option.bind_some, Option.toList_some, Option.toList_none, List.cons_append, List.nil_append, zB_go, zB_end, zB_no, zokv_i, zokv_r, zokv_n, eq_self]
theorem c195_n {x : Int32} (e : zwi x (nI 0) (nI 3) = nI 0) (h : zH) : zCf zT znl (d + 3) 195 [.ref 91, .int x] h = some (some (.int (nI 1)), h) := by
  simp only [e195, q195_0, q195_1, q195_4, q195_7, q195_8, q195_11, q195_12, q195_15, q195_16, q195_17, q195_20, q195_21, q195_24, q195_25, c191, e, zn1_0, if_true, if_false, ↓reduceIte, Option.bind_some, Option.toList_some, Option.toList_none, List.cons_append, List.nil_append, zB_go, zB_end, zB_no, zokv_i, zokv_r, zokv_n, eq_self]
theorem w42 {L N q k : Nat} (hk : k < 4) (hL : L ≤ 24) (hq : q < 100) {f : Nat → Int32} : ∀ (m i : Nat) (s : Nat → Int32) (h : zH) (mk : Nat), i + m = L → zJ s N mk → s 7 = nI q → zRW 49 s h → h (82 + 2 * k) 2 = nI L → (∀ i, i < 24 → h (82 + 2 * k + 1) i = f i) → ∃ h', zXf zT znl (d + 8) 42 46 [.ref 0, .int (nI k), .ref (82 + 2 * k), .int (nI i)] [] h = some (some (.int (nI (zjd f m i s))), h') ∧ ∀ x, ¬ (49 ≤ x ∧ x < 73) → h' x = h x := by
  have ha := zSt_of k hk
  intro m
  induction m with
  | zero =>
    intro i s h mk hi z h7 r hl hf
    have le : nI L ≤ nI i := by rw [show i = L by omega]; exact Int32.le_refl _
    refine ⟨h, ?_, fun _ _ => rfl⟩
    rw [q42_46]
    simp only [q42_47, q42_48, q42_51, q42_86, q42_87, q42_90, gf_S2 ha, hl, le, zn1_0, if_true, if_false, ↓reduceIte, Option.bind_some, Option.toList_some, Option.toList_none, List.cons_append, List.nil_append, zB_go, zB_end, zB_no, zokv_i, zokv_r, zokv_n, eq_self]
    rw [show L = i by omega]
    rfl
  | succ m ih =>
    intro i s h mk hi z h7 r hl hf
    have le : ¬ nI L ≤ nI i := nI_ge (by omega) (by omega)
    obtain ⟨h1, f1, f2, f3⟩ := c70 (d + 1) (w := 49) (M := 1) (h := h) zW_49 (by decide) hq z h7 r
    have r9 : h1 49 9 = zweek s 1 := f2.2.2.2.1.1
    obtain ⟨mk', z'⟩ := zJ_week z
    have i24 : i < 24 := by omega
    have g1 : h1 (82 + 2 * k + 1) i = f i := by rw [f3 _ (by omega)]; exact hf i i24
    unfold zjd
    by_cases e : f i = zweek s 1
    · rw [if_pos e]
      obtain ⟨h', p1, p2⟩ := ih (i + 1) (zweek s) h1 mk' (by omega) z' ((zweek_lo z (by decide) (by decide) (by decide)).trans h7) f2 (by rw [f3 _ (by omega)]; exact hl) fun j hj => by rw [f3 _ (by omega)]; exact hf j hj
      refine ⟨h', ?_, fun x hx => by rw [p2 x hx, f3 x hx]⟩
      rw [← p1, q42_46]
      simp only [q42_47, q42_48, q42_51, q42_54, q42_55, q42_58, q42_59, q42_62, q42_63, q42_66, q42_67, q42_68, q42_69, q42_72, q42_75, q42_80, q42_83, gf_L0, gf_L2, gf_S0 ha, gf_S2 ha, gf_W9 zW_49, ald_S1 ha i24, hl, le, f1, r9, g1, e, rc_W zW_49, nI_add, zn1_0, if_true, if_false, ↓reduceIte, Option.bind_some, Option.toList_some, Option.toList_none, List.cons_append, List.nil_append, zB_go, zB_end, zB_no, zokv_i, zokv_r, zokv_n, eq_self]
    · rw [if_neg e]
      refine ⟨h1, ?_, f3⟩
      rw [q42_46]
      simp only [q42_47, q42_48, q42_51, q42_54, q42_55, q42_58, q42_59, q42_62, q42_63, q42_66, q42_67, q42_68, q42_69, q42_72, q42_75, q42_78, q42_79, gf_L0, gf_L2, gf_S0 ha, gf_S2 ha, gf_W9 zW_49, ald_S1 ha i24, hl, le, f1, r9, g1, e, rc_W zW_49, nI_add, zn1_0, if_true, if_false, ↓reduceIte, Option.bind_some, Option.toList_some, Option.toList_none, List.cons_append, List.nil_append, zB_go, zB_end, zB_no, zokv_i, zokv_r, zokv_n, eq_self]
theorem w197 {L N q k : Nat} (hk : k < 4) (hL : L ≤ 24) (hq : q < 100) {f : Nat → Int32} {y : Int32} : ∀ (m i : Nat) (g : zH) (mk : Nat), i + m = L → zJ (g 92) N mk → g 92 7 = nI q → g 103 k = nI L → (∀ i, i < 24 → g 104 (24 * k + i) = f i) → ∃ g' b t, zXf zT znl (d + 8) 197 32 [.ref 91, .int (nI k), (.int y), .int (nI i), .int (nI 1)] [] g = zXf zT znl (d + 8) 197 94 [.ref 91, .int (nI k), (.int y), .int (nI (zjd f m i (g 92))), .int b] [] g' ∧ g' 92 = zwks t (g 92) ∧ ∀ a, a ≠ 92 → a ≠ 97 → a ≠ 98 → a ≠ 99 → g' a = g a := by
  intro m
  induction m with
  | zero =>
    intro i g mk hi z h7 hl hf
    have le : nI L ≤ nI i := by rw [show i = L by omega]; exact Int32.le_refl _
    refine ⟨g, nI 1, 0, ?_, rfl, fun _ _ _ _ _ => rfl⟩
    rw [q197_32]
    simp only [q197_33, q197_34, q197_37, q197_38, q197_39, gf_M19, ald_n103 hk, hl, le, zn1_0, if_true, if_false, ↓reduceIte, Option.bind_some, Option.toList_some, Option.toList_none, List.cons_append, List.nil_append, zB_go, zB_end, zB_no, zokv_i, zokv_r, zokv_n, eq_self]
    rfl
  | succ m ih =>
    intro i g mk hi z h7 hl hf
    have le : ¬ nI L ≤ nI i := nI_ge (by omega) (by omega)
    obtain ⟨g1, f1, f2, f3⟩ := c157 (d + 1) (h := g) hq z h7
    obtain ⟨mk', z'⟩ := zJ_week z
    have g4 : g1 104 (24 * k + i) = f i := by rw [f3 104 (by decide) (by decide) (by decide) (by decide)]; exact hf i (by omega)
    unfold zjd
    by_cases e : f i = zweek (g 92) 1
    · rw [if_pos e]
      obtain ⟨g', b, t, p1, p2, p3⟩ := ih (i + 1) g1 mk' (by omega) (by rw [f2]; exact z') (by rw [f2]; exact (zweek_lo z (by decide) (by decide) (by decide)).trans h7) (by rw [f3 103 (by decide) (by decide) (by decide) (by decide)]; exact hl) fun j hj => by rw [f3 104 (by decide) (by decide) (by decide) (by decide)]; exact hf j hj
      rw [f2] at p1 p2
      refine ⟨g', b, t + 1, ?_, p2, fun x i1 i2 i3 i4 => by rw [p3 x i1 i2 i3 i4, f3 x i1 i2 i3 i4]⟩
      rw [← p1, q197_32]
      simp only [q197_33, q197_34, q197_37, q197_38, q197_39, q197_42, q197_44, q197_47, q197_48, q197_51, q197_52, q197_55, q197_56, q197_57, q197_58, q197_61, q197_63, q197_64, q197_65, q197_66, q197_67, q197_68, q197_71, q197_72, q197_76, q197_78, q197_79, q197_81, q197_84, q197_85, q197_89, q197_90, q197_91, gf_M0, gf_M19, gf_M20, ald_n92 (show 1 < 488 by decide), ald_n103 hk, hl, le, f1, f2, pk_mul, nI_add, ald_n104 (show 24 * k + i < 96 by omega), g4, e, rc_M, zn1_0, if_true, if_false, ↓reduceIte, Option.bind_some, Option.toList_some, Option.toList_none, List.cons_append, List.nil_append, zB_go, zB_end, zB_no, zokv_i, zokv_r, zokv_n, eq_self]
    · rw [if_neg e]
      have e' : ¬ zweek (g 92) 1 = f i := fun w => e w.symm
      refine ⟨g1, nI 0, 1, ?_, f2, f3⟩
      rw [q197_32]
      simp only [q197_33, q197_34, q197_37, q197_38, q197_39, q197_42, q197_44, q197_47, q197_48, q197_51, q197_52, q197_55, q197_56, q197_57, q197_58, q197_61, q197_63, q197_64, q197_65, q197_66, q197_67, q197_68, q197_75, q197_76, q197_78, q197_79, q197_81, q197_88, q197_89, q197_90, q197_91, gf_M0, gf_M19, gf_M20, ald_n92 (show 1 < 488 by decide), ald_n103 hk, hl, le, f1, f2, pk_mul, nI_add, ald_n104 (show 24 * k + i < 96 by omega), g4, e', rc_M, zadd0, zn1_0, if_true, if_false, ↓reduceIte, Option.bind_some, Option.toList_some, Option.toList_none, List.cons_append, List.nil_append, zB_go, zB_end, zB_no, zokv_i, zokv_r, zokv_n, eq_self]
      have hl' : g1 103 k = nI L := by rw [f3 103 (by decide) (by decide) (by decide) (by decide)]; exact hl
      rw [q197_32]
      simp only [q197_33, q197_34, q197_37, q197_38, q197_39, q197_42, q197_44, gf_M19, ald_n103 hk, hl', le, Nat.add_zero, zn1_0, if_true, if_false, ↓reduceIte, Option.bind_some, Option.toList_some, Option.toList_none, List.cons_append, List.nil_append, zB_go, zB_end, zB_no, zokv_i, zokv_r, zokv_n, eq_self]
theorem o42 (R : Rel h) (x : Int32) : zOp (d + 60) 42 197 [.int x] h := by
  obtain ⟨⟨N, mk, z⟩, r, -, -, -, S⟩ := id R
  rcases zwi_c x 3 (by decide) with e | ⟨k, hk, rfl, e⟩
  · have l := fun d g => c195_n d e g
    have n1 : ¬ nI 1 ≤ nI 0 := by decide
    exact zOp_k 1 R (by simp only [e42, q42_0, q42_1, q42_4, q42_7, q42_8, q42_9, q42_12, c37x, e, ce_1, ce_2, ce_3, ce_4, ce_5, ce_6, cm_1, cm_2, cm_3, cm_4, cm_5, cm_6, rc_L, rc_M, zn1_0, if_true, if_false, ↓reduceIte, Option.bind_some, Option.toList_some, Option.toList_none, List.cons_append, List.nil_append, zB_go, zB_end, zB_no, zokv_i, zokv_r, zokv_n, eq_self]) fun g hg => by simp only [e197, q197_0, q197_1, q197_2, q197_5, q197_6, q197_7, q197_10, q197_11, q197_12, q197_15, l, n1, ce_1, ce_2, ce_3, ce_4, ce_5, ce_6, cm_1, cm_2, cm_3, cm_4, cm_5, cm_6, rc_L, rc_M, zn1_0, if_true, if_false, ↓reduceIte, Option.bind_some, Option.toList_some, Option.toList_none, List.cons_append, List.nil_append, zB_go, zB_end, zB_no, zokv_i, zokv_r, zokv_n, eq_self]
  have k4 : k < 4 := by omega
  have ha := zSt_of k k4
  obtain ⟨⟨L, hL, s1, s2⟩, s3, -, s5⟩ := S k k4
  by_cases q : h 102 k = nI 0
  · have n1 : ¬ nI 2 ≤ nI 0 := by decide
    exact zOp_k 2 R (by simp only [e42, q42_0, q42_1, q42_4, q42_13, q42_14, q42_17, q42_18, q42_19, q42_20, q42_21, q42_24, q42_27, q42_28, q42_29, q42_32, c37x, e, gf_L6, aal_S k4, c102 _ ha, s3, q, rc_S ha, ce_1, ce_2, ce_3, ce_4, ce_5, ce_6, cm_1, cm_2, cm_3, cm_4, cm_5, cm_6, rc_L, rc_M, zn1_0, if_true, if_false, ↓reduceIte, Option.bind_some, Option.toList_some, Option.toList_none, List.cons_append, List.nil_append, zB_go, zB_end, zB_no, zokv_i, zokv_r, zokv_n, eq_self]) fun g hg => by simp only [e197, q197_0, q197_1, q197_2, q197_5, q197_6, q197_7, q197_10, q197_11, q197_12, q197_15, c195 _ k4, hg 102 (by decide), q, n1, ce_1, ce_2, ce_3, ce_4, ce_5, ce_6, cm_1, cm_2, cm_3, cm_4, cm_5, cm_6, rc_L, rc_M, zn1_0, if_true, if_false, ↓reduceIte, Option.bind_some, Option.toList_some, Option.toList_none, List.cons_append, List.nil_append, zB_go, zB_end, zB_no, zokv_i, zokv_r, zokv_n, eq_self]
  obtain ⟨q7, hq, h7⟩ := z.2.1
  obtain ⟨h1, u1, u2, u3⟩ := c50n (d + 57) R
  obtain ⟨h2, v1, v2⟩ := w42 (d + 51) (L := L) (f := fun i => h 104 (24 * k + i)) k4 hL hq L 0 (h 92) h1 mk (by omega) z.1 h7 u2 (by rw [u3 _ (by omega)]; exact s1) fun i hi => by rw [u3 _ (by omega)]; exact s5 i hi
  have f2 : ∀ x, ¬ (49 ≤ x ∧ x < 73) → h2 x = h x := fun x hx => by rw [v2 x hx, u3 x hx]
  have n0 : nI 0 ≤ nI 0 := Int32.le_refl _
  obtain ⟨g1, a1, a2, a3⟩ := c109sx (d + 58) h2
  have k1 : g1 92 = h 92 := by rw [a3 92 (by decide), f2 92 (by omega)]
  obtain ⟨g2, b, t, b1, b2, b3⟩ := w197 (d + 51) (L := L) (f := fun i => h 104 (24 * k + i)) (y := nI 0) k4 hL hq L 0 g1 mk (by omega) (by rw [k1]; exact z.1) (by rw [k1]; exact h7) (by rw [a3 103 (by decide), f2 103 (by omega)]; exact s2) fun i hi => by rw [a3 104 (by decide), f2 104 (by omega)]
  rw [k1] at b1 b2
  obtain ⟨g4, p1, p2, p3⟩ := c109bx (d + 58) g2
  refine zOp_al (x := nI (zjd (fun i => h 104 (24 * k + i)) L 0 (h 92))) (h1 := h2) (h2 := g4) R ?_ ?_ (zAl_trans (zAl_49 u3) (zAl_49 v2)) (zAl_m ?_ fun a i1 i2 i3 i4 i5 => by rw [p3 a i1, b3 a i1 i3 i4 i5, a3 a i2])
  · simp only [e42, q42_0, q42_1, q42_4, q42_13, q42_14, q42_17, q42_18, q42_19, q42_20, q42_21, q42_24, q42_33, q42_34, q42_37, q42_38, q42_41, q42_44, q42_45, c37x, e, gf_L0, gf_L2, gf_L6, aal_S k4, c102 _ ha, s3, q, u1, v1, rc_S ha, rc_W zW_49, ce_1, ce_2, ce_3, ce_4, ce_5, ce_6, cm_1, cm_2, cm_3, cm_4, cm_5, cm_6, rc_L, rc_M, zn1_0, if_true, if_false, ↓reduceIte, Option.bind_some, Option.toList_some, Option.toList_none, List.cons_append, List.nil_append, zB_go, zB_end, zB_no, zokv_i, zokv_r, zokv_n, eq_self]
  · simp only [e197, q197_0, q197_1, q197_2, q197_5, q197_6, q197_7, q197_16, q197_17, q197_20, q197_21, q197_24, q197_27, q197_28, q197_29, q197_30, q197_94, q197_95, q197_98, q197_99, q197_102, q197_105, q197_106, c195 _ k4, f2 102 (by omega), q, n0, gf_M0, gf_M2, a1, b1, p1, ce_1, ce_2, ce_3, ce_4, ce_5, ce_6, cm_1, cm_2, cm_3, cm_4, cm_5, cm_6, rc_L, rc_M, zn1_0, if_true, if_false, ↓reduceIte, Option.bind_some, Option.toList_some, Option.toList_none, List.cons_append, List.nil_append, zB_go, zB_end, zB_no, zokv_i, zokv_r, zokv_n, eq_self]
  · rw [zback (s := h 92) (f2 92 (by omega)) a2 (b3 94 (by decide) (by decide) (by decide) (by decide)) (fun i hi => by rw [b2]; exact zwks_hi t z.1 (by omega)) p2, f2 92 (by omega)]
    exact zEq_refl _
end O78
