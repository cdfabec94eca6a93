/-! ===== all shouts, the loudest, whether the market may go ===== -/
def zld (g : Nat → Int32) : Int32 → Int32 → Nat → Nat → Int32
  | b, _, _, 0 => b
  | b, m, j, n + 1 => if m < g j then zld g (nI j) (g j) (j + 1) n else if g j = m then zld g (-1) m (j + 1) n else zld g b m (j + 1) n
theorem zld_val (g : Nat → Int32) : ∀ (n j : Nat) (b m : Int32), (b = -1 ∨ ∃ i, i < j ∧ b = nI i) → zld g b m j n = -1 ∨ ∃ i, i < j + n ∧ zld g b m j n = nI i
  | 0, _, _, _, h => h
  | n + 1, j, b, m, h => by
    have w : ∀ b, (b = -1 ∨ ∃ i, i < j + 1 ∧ b = nI i) → ∀ m, (zld g b m (j + 1) n = -1 ∨ ∃ i, i < j + (n + 1) ∧ zld g b m (j + 1) n = nI i) := by
      intro b hb m
      rcases zld_val g n (j + 1) b m hb with e | ⟨i, hi, e⟩
      · exact Or.inl e
      · exact Or.inr ⟨i, by omega, e⟩
    unfold zld
    split
    · exact w _ (Or.inr ⟨j, by omega, rfl⟩) _
    · split
      · exact w _ (Or.inl rfl) _
      · refine w _ ?_ _
        rcases h with e | ⟨i, hi, e⟩
        · exact Or.inl e
        · exact Or.inr ⟨i, by omega, e⟩
def zmayv (s : Nat → Int32) : Int32 := if s 8 = nI 0 then nI 1 else if s (10 + zn s 1) = nI 2 then (if s 2 % nI 2 = nI 0 then nI 1 else nI 0) else nI 1
section LP
variable (d : Nat)
theorem w151 {s : Nat → Int32} {N mk : Nat} (hN : s 0 = nI N) (hN8 : N ≤ 8) (hm1 : s 1 = nI mk) (hmk : mk < 80) (hP : ∀ k, k < 8 → zP s k) (t0 : zTI zok0 s 0) (t1 : zTI zok1 s 1) : ∀ (n j : Nat) (h : zH), j + n = N → h 92 = s → (∀ i, i < j → h 99 i = zshout s i) → ∃ h', zXf zT znl (d + 5) 151 2 [.ref 91, .int (nI j)] [] h = some (none, h') ∧ (∀ a, a ≠ 97 → a ≠ 98 → a ≠ 99 → h' a = h a) ∧ ∀ i, i < N → h' 99 i = zshout s i := by
  intro n
  induction n with
  | zero =>
    intro j h hj hs hq
    have a : nI N ≤ nI j := by rw [show N = j by omega]; exact Int32.le_refl _
    refine ⟨h, ?_, fun _ _ _ _ => rfl, fun i hi => hq i (by omega)⟩
    rw [q151_2]
    simp only [q151_3, q151_4, q151_7, q151_8, q151_9, q151_29, gf_M0, ald_n92 (show 0 < 488 by decide), hs, hN, a, if_true, Option.bind_some, Option.toList_some, Option.toList_none, List.cons_append, List.nil_append, zB_go, zB_end, zB_no, zokv_i, zokv_r, zokv_n, eq_self]
  | succ n ih =>
    intro j h hj hs hq
    have a : ¬ (nI N ≤ nI j) := nI_ge (by omega) (by omega)
    obtain ⟨h1, e1, e2⟩ := c131 d h (k := j) (N := N) (mk := mk) (by omega) (by rw [hs]; exact hN) hN8 (by rw [hs]; exact hm1) hmk (by rw [hs]; exact hP j (by omega)) (by rw [hs]; exact t0) (by rw [hs]; exact t1)
    rw [hs] at e1
    obtain ⟨h', f1, f2, f3⟩ := ih (j + 1) (zup h1 99 j (zshout s j)) (by omega) (by rw [zup_row_ne (by decide), e2 92 (by decide) (by decide)]; exact hs) (fun i hi => by
      by_cases z : i = j
      · subst z; exact zup_at
      · rw [zup_o z, e2 99 (by decide) (by decide)]; exact hq i (by omega))
    refine ⟨h', ?_, fun b b1 b2 b3 => by rw [f2 b b1 b2 b3, zup_row_ne b3]; exact e2 b b1 b2, f3⟩
    rw [← f1, q151_2]
    simp only [q151_0, q151_1, q151_3, q151_4, q151_7, q151_8, q151_9, q151_12, q151_13, q151_16, q151_17, q151_18, q151_19, q151_22, q151_23, q151_26, q151_29, gf_M0, gf_M12, ald_n92 (show 0 < 488 by decide), hs, hN, a, e1, ast_n99 (show j < 8 by omega), nI_add, rc_M, if_false, Option.bind_some, Option.toList_some, Option.toList_none, List.cons_append, List.nil_append, zB_go, zB_end, zB_no, zokv_i, zokv_r, zokv_n, eq_self]
theorem c151 {h : zH} {N mk : Nat} (hN : h 92 0 = nI N) (hN8 : N ≤ 8) (hm1 : h 92 1 = nI mk) (hmk : mk < 80) (hP : ∀ k, k < 8 → zP (h 92) k) (t0 : zTI zok0 (h 92) 0) (t1 : zTI zok1 (h 92) 1) : ∃ h', zCf zT znl (d + 6) 151 [.ref 91] h = some (none, h') ∧ (∀ a, a ≠ 97 → a ≠ 98 → a ≠ 99 → h' a = h a) ∧ ∀ i, i < N → h' 99 i = zshout (h 92) i := by
  obtain ⟨h', f1, f2, f3⟩ := w151 d hN hN8 hm1 hmk hP t0 t1 N 0 h (Nat.zero_add N) rfl (fun i hi => absurd hi (Nat.not_lt_zero i))
  refine ⟨h', ?_, f2, f3⟩
  rw [← f1]
  simp only [e151, q151_0, q151_1, Option.bind_some, Option.toList_some, Option.toList_none, List.cons_append, List.nil_append, zB_go, zB_end, zB_no, zokv_i, zokv_r, zokv_n, eq_self]
theorem zRW_keep {w : Nat} {s : Nat → Int32} {h h1 : zH} (hR : zRW w s h) (e : ∀ a, w ≤ a → a < w + 24 → a ≠ w + 15 → a ≠ w + 19 → a ≠ w + 20 → a ≠ w + 21 → h1 a = h a) : zRW w s h1 := by
  obtain ⟨a1, a2, a3, a4, a5, a6, ⟨b1, b2⟩, ⟨d1, d2⟩⟩ := hR
  unfold zRW zRT
  rw [e (w + 1) (by omega) (by omega) (by omega) (by omega) (by omega) (by omega), e (w + 2) (by omega) (by omega) (by omega) (by omega) (by omega) (by omega), e w (by omega) (by omega) (by omega) (by omega) (by omega) (by omega), e (w + 22) (by omega) (by omega) (by omega) (by omega) (by omega) (by omega), e (w + 23) (by omega) (by omega) (by omega) (by omega) (by omega) (by omega)]
  refine ⟨a1, a2, fun k hk j hj => by rw [e (w + 4 + k) (by omega) (by omega) (by omega) (by omega) (by omega) (by omega)]; exact a3 k hk j hj, a4, a5, a6, ⟨?_, ?_⟩, ⟨?_, ?_⟩⟩
  · rw [e (w + 12) (by omega) (by omega) (by omega) (by omega) (by omega) (by omega)]; exact b1
  · unfold zct2 at b2 ⊢
    rw [e (w + 12) (by omega) (by omega) (by omega) (by omega) (by omega) (by omega), e (w + 12 + 1) (by omega) (by omega) (by omega) (by omega) (by omega) (by omega), e (w + 12 + 2) (by omega) (by omega) (by omega) (by omega) (by omega) (by omega)]
    exact b2
  · rw [e (w + 16) (by omega) (by omega) (by omega) (by omega) (by omega) (by omega)]; exact d1
  · unfold zct2 at d2 ⊢
    rw [e (w + 16) (by omega) (by omega) (by omega) (by omega) (by omega) (by omega), e (w + 16 + 1) (by omega) (by omega) (by omega) (by omega) (by omega) (by omega), e (w + 16 + 2) (by omega) (by omega) (by omega) (by omega) (by omega) (by omega)]
    exact d2
theorem w62 {s : Nat → Int32} {w N mk : Nat} (hw : zW w) (hN : s 0 = nI N) (hN8 : N ≤ 8) (hm1 : s 1 = nI mk) (hmk : mk < 80) (hP : ∀ k, k < 8 → zP s k) (t0 : zTI zok0 s 0) (t1 : zTI zok1 s 1) : ∀ (n j : Nat) (h : zH), j + n = N → zRW w s h → (∀ i, i < j → h (w + 21) i = zshout s i) → ∃ h', zXf zT znl (d + 5) 62 2 [.ref w, .int (nI j)] [] h = some (none, h') ∧ (∀ a, a ≠ w + 15 → a ≠ w + 19 → a ≠ w + 20 → a ≠ w + 21 → h' a = h a) ∧ ∀ i, i < N → h' (w + 21) i = zshout s i := by
  intro n
  induction n with
  | zero =>
    intro j h hj hR hq
    have a : nI N ≤ nI j := by rw [show N = j by omega]; exact Int32.le_refl _
    have r12 : h w 12 = nI N := hR.2.2.2.1.2.2.2.1.trans hN
    refine ⟨h, ?_, fun _ _ _ _ _ => rfl, fun i hi => hq i (by omega)⟩
    rw [q62_2]
    simp only [q62_3, q62_4, q62_7, q62_27, gf_W12 hw, r12, a, if_true, Option.bind_some, Option.toList_some, Option.toList_none, List.cons_append, List.nil_append, zB_go, zB_end, zB_no, zokv_i, zokv_r, zokv_n, eq_self]
  | succ n ih =>
    intro j h hj hR hq
    have a : ¬ (nI N ≤ nI j) := nI_ge (by omega) (by omega)
    have r12 : h w 12 = nI N := hR.2.2.2.1.2.2.2.1.trans hN
    obtain ⟨h1, e1, e2⟩ := c58 d h (k := j) (N := N) (mk := mk) hw (by omega) hR hN hN8 hm1 hmk (hP j (by omega)) t0 t1
    obtain ⟨h', f1, f2, f3⟩ := ih (j + 1) (zup h1 (w + 21) j (zshout s j)) (by omega) (zRW_keep hR (fun b _ _ b1 b2 b3 b4 => by rw [zup_row_ne b4]; exact e2 b b3 b1 b2)) (fun i hi => by
      by_cases z : i = j
      · subst z; exact zup_at
      · rw [zup_o z, e2 (w + 21) (by omega) (by omega) (by omega)]; exact hq i (by omega))
    refine ⟨h', ?_, fun b b1 b2 b3 b4 => by rw [f2 b b1 b2 b3 b4, zup_row_ne b4]; exact e2 b b3 b1 b2, f3⟩
    rw [← f1, q62_2]
    simp only [q62_0, q62_1, q62_3, q62_4, q62_7, q62_10, q62_11, q62_14, q62_15, q62_16, q62_17, q62_20, q62_21, q62_24, q62_27, gf_W12 hw, gf_W6 hw, r12, a, e1, ast_W21 hw (show j < 8 by omega), nI_add, rc_W hw, if_false, Option.bind_some, Option.toList_some, Option.toList_none, List.cons_append, List.nil_append, zB_go, zB_end, zB_no, zokv_i, zokv_r, zokv_n, eq_self]
theorem c62 {s : Nat → Int32} {h : zH} {w N mk : Nat} (hw : zW w) (hN : s 0 = nI N) (hN8 : N ≤ 8) (hm1 : s 1 = nI mk) (hmk : mk < 80) (hP : ∀ k, k < 8 → zP s k) (t0 : zTI zok0 s 0) (t1 : zTI zok1 s 1) (hR : zRW w s h) : ∃ h', zCf zT znl (d + 6) 62 [.ref w] h = some (none, h') ∧ (∀ a, a ≠ w + 15 → a ≠ w + 19 → a ≠ w + 20 → a ≠ w + 21 → h' a = h a) ∧ ∀ i, i < N → h' (w + 21) i = zshout s i := by
  obtain ⟨h', f1, f2, f3⟩ := w62 d hw hN hN8 hm1 hmk hP t0 t1 N 0 h (Nat.zero_add N) hR (fun i hi => absurd hi (Nat.not_lt_zero i))
  refine ⟨h', ?_, f2, f3⟩
  rw [← f1]
  simp only [e62, q62_0, q62_1, Option.bind_some, Option.toList_some, Option.toList_none, List.cons_append, List.nil_append, zB_go, zB_end, zB_no, zokv_i, zokv_r, zokv_n, eq_self]
theorem w152 {h : zH} {N : Nat} (hN : h 92 0 = nI N) (hN8 : N ≤ 8) : ∀ (n j : Nat) (b m : Int32), j + n = N → zXf zT znl d 152 6 [.ref 91, .int b, .int m, .int (nI j)] [] h = some (some (.int (zld (h 99) b m j n)), h) := by
  intro n
  induction n with
  | zero =>
    intro j b m hj
    have a : nI N ≤ nI j := by rw [show N = j by omega]; exact Int32.le_refl _
    rw [q152_6]
    simp only [q152_7, q152_8, q152_11, q152_12, q152_13, q152_73, q152_74, gf_M0, ald_n92 (show 0 < 488 by decide), hN, a, zld, if_true, Option.bind_some, Option.toList_some, Option.toList_none, List.cons_append, List.nil_append, zB_go, zB_end, zB_no, zokv_i, zokv_r, zokv_n, eq_self]
  | succ n ih =>
    intro j b m hj
    have a : ¬ (nI N ≤ nI j) := nI_ge (by omega) (by omega)
    have hj8 : j < 8 := by omega
    rw [q152_6]
    by_cases q1 : m < h 99 j
    · have q1' : ¬ (h 99 j ≤ m) := Int32.not_le.mpr q1
      simp only [q152_0, q152_1, q152_2, q152_3, q152_4, q152_5, q152_7, q152_8, q152_11, q152_12, q152_13, q152_16, q152_17, q152_20, q152_21, q152_22, q152_23, q152_26, q152_27, q152_30, q152_31, q152_34, q152_35, q152_36, q152_37, q152_40, q152_41, q152_44, q152_45, q152_46, q152_47, q152_50, q152_51, q152_52, q152_53, q152_56, q152_57, q152_60, q152_61, q152_62, q152_65, q152_66, q152_67, q152_70, q152_73, q152_74, gf_M0, gf_M12, ald_n92 (show 0 < 488 by decide), ald_n99 hj8, hN, a, q1', nI_add, if_false, Option.bind_some, Option.toList_some, Option.toList_none, List.cons_append, List.nil_append, zB_go, zB_end, zB_no, zokv_i, zokv_r, zokv_n, eq_self]
      rw [ih (j + 1) _ _ (by omega)]
      simp only [zld, q1, if_true]
    · have q1' : h 99 j ≤ m := Int32.not_lt.mp q1
      by_cases q2 : h 99 j = m
      · simp only [q152_0, q152_1, q152_2, q152_3, q152_4, q152_5, q152_7, q152_8, q152_11, q152_12, q152_13, q152_16, q152_17, q152_20, q152_21, q152_22, q152_23, q152_26, q152_27, q152_30, q152_31, q152_34, q152_35, q152_36, q152_37, q152_40, q152_41, q152_44, q152_45, q152_46, q152_47, q152_50, q152_51, q152_52, q152_53, q152_56, q152_57, q152_60, q152_61, q152_62, q152_65, q152_66, q152_67, q152_70, q152_73, q152_74, gf_M0, gf_M12, ald_n92 (show 0 < 488 by decide), ald_n99 hj8, hN, a, q1', q2, Int32.le_refl, nI_add, if_true, if_false, Option.bind_some, Option.toList_some, Option.toList_none, List.cons_append, List.nil_append, zB_go, zB_end, zB_no, zokv_i, zokv_r, zokv_n, eq_self]
        rw [ih (j + 1) _ _ (by omega)]
        simp only [zld, q2, Int32.lt_irrefl, if_true, if_false]
      · simp only [q152_0, q152_1, q152_2, q152_3, q152_4, q152_5, q152_7, q152_8, q152_11, q152_12, q152_13, q152_16, q152_17, q152_20, q152_21, q152_22, q152_23, q152_26, q152_27, q152_30, q152_31, q152_34, q152_35, q152_36, q152_37, q152_40, q152_41, q152_44, q152_45, q152_46, q152_47, q152_50, q152_51, q152_52, q152_53, q152_56, q152_57, q152_60, q152_61, q152_62, q152_65, q152_66, q152_67, q152_70, q152_73, q152_74, gf_M0, gf_M12, ald_n92 (show 0 < 488 by decide), ald_n99 hj8, hN, a, q1', q2, nI_add, if_true, if_false, Option.bind_some, Option.toList_some, Option.toList_none, List.cons_append, List.nil_append, zB_go, zB_end, zB_no, zokv_i, zokv_r, zokv_n, eq_self]
        rw [ih (j + 1) _ _ (by omega)]
        simp only [zld, q1, q2, if_false]
theorem c152 {h : zH} {N : Nat} (hN : h 92 0 = nI N) (hN8 : N ≤ 8) : zCf zT znl (d + 1) 152 [.ref 91] h = some (some (.int (zld (h 99) (-1) (nI 0) 0 N)), h) := by
  rw [← w152 d hN hN8 N 0 (-1) (nI 0) (Nat.zero_add N)]
  simp only [e152, q152_0, q152_1, q152_2, q152_3, q152_4, q152_5, Option.bind_some, Option.toList_some, Option.toList_none, List.cons_append, List.nil_append, zB_go, zB_end, zB_no, zokv_i, zokv_r, zokv_n, eq_self]
theorem w63 {h : zH} {w N : Nat} (hw : zW w) (hN : h w 12 = nI N) (hN8 : N ≤ 8) : ∀ (n j : Nat) (b m : Int32), j + n = N → zXf zT znl d 63 6 [.ref w, .int b, .int m, .int (nI j)] [] h = some (some (.int (zld (h (w + 21)) b m j n)), h) := by
  intro n
  induction n with
  | zero =>
    intro j b m hj
    have a : nI N ≤ nI j := by rw [show N = j by omega]; exact Int32.le_refl _
    rw [q63_6]
    simp only [q63_7, q63_8, q63_11, q63_54, q63_55, gf_W12 hw, hN, a, zld, if_true, Option.bind_some, Option.toList_some, Option.toList_none, List.cons_append, List.nil_append, zB_go, zB_end, zB_no, zokv_i, zokv_r, zokv_n, eq_self]
  | succ n ih =>
    intro j b m hj
    have a : ¬ (nI N ≤ nI j) := nI_ge (by omega) (by omega)
    have hj8 : j < 8 := by omega
    rw [q63_6]
    by_cases q1 : m < h (w + 21) j
    · have q1' : ¬ (h (w + 21) j ≤ m) := Int32.not_le.mpr q1
      simp only [q63_0, q63_1, q63_2, q63_3, q63_4, q63_5, q63_7, q63_8, q63_11, q63_14, q63_15, q63_18, q63_19, q63_20, q63_21, q63_24, q63_25, q63_28, q63_29, q63_30, q63_31, q63_32, q63_33, q63_36, q63_37, q63_40, q63_41, q63_42, q63_43, q63_46, q63_47, q63_48, q63_51, q63_54, q63_55, gf_W12 hw, gf_W6 hw, ald_W21 hw hj8, hN, a, q1', nI_add, if_false, Option.bind_some, Option.toList_some, Option.toList_none, List.cons_append, List.nil_append, zB_go, zB_end, zB_no, zokv_i, zokv_r, zokv_n, eq_self]
      rw [ih (j + 1) _ _ (by omega)]
      simp only [zld, q1, if_true]
    · have q1' : h (w + 21) j ≤ m := Int32.not_lt.mp q1
      by_cases q2 : h (w + 21) j = m
      · simp only [q63_0, q63_1, q63_2, q63_3, q63_4, q63_5, q63_7, q63_8, q63_11, q63_14, q63_15, q63_18, q63_19, q63_20, q63_21, q63_24, q63_25, q63_28, q63_29, q63_30, q63_31, q63_32, q63_33, q63_36, q63_37, q63_40, q63_41, q63_42, q63_43, q63_46, q63_47, q63_48, q63_51, q63_54, q63_55, gf_W12 hw, gf_W6 hw, ald_W21 hw hj8, hN, a, q1', q2, Int32.le_refl, nI_add, if_true, if_false, Option.bind_some, Option.toList_some, Option.toList_none, List.cons_append, List.nil_append, zB_go, zB_end, zB_no, zokv_i, zokv_r, zokv_n, eq_self]
        rw [ih (j + 1) _ _ (by omega)]
        simp only [zld, q2, Int32.lt_irrefl, if_true, if_false]
      · simp only [q63_0, q63_1, q63_2, q63_3, q63_4, q63_5, q63_7, q63_8, q63_11, q63_14, q63_15, q63_18, q63_19, q63_20, q63_21, q63_24, q63_25, q63_28, q63_29, q63_30, q63_31, q63_32, q63_33, q63_36, q63_37, q63_40, q63_41, q63_42, q63_43, q63_46, q63_47, q63_48, q63_51, q63_54, q63_55, gf_W12 hw, gf_W6 hw, ald_W21 hw hj8, hN, a, q1', q2, nI_add, if_true, if_false, Option.bind_some, Option.toList_some, Option.toList_none, List.cons_append, List.nil_append, zB_go, zB_end, zB_no, zokv_i, zokv_r, zokv_n, eq_self]
        rw [ih (j + 1) _ _ (by omega)]
        simp only [zld, q1, q2, if_false]
theorem c63 {h : zH} {w N : Nat} (hw : zW w) (hN : h w 12 = nI N) (hN8 : N ≤ 8) : zCf zT znl (d + 1) 63 [.ref w] h = some (some (.int (zld (h (w + 21)) (-1) (nI 0) 0 N)), h) := by
  rw [← w63 d hw hN hN8 N 0 (-1) (nI 0) (Nat.zero_add N)]
  simp only [e63, q63_0, q63_1, q63_2, q63_3, q63_4, q63_5, Option.bind_some, Option.toList_some, Option.toList_none, List.cons_append, List.nil_append, zB_go, zB_end, zB_no, zokv_i, zokv_r, zokv_n, eq_self]
theorem c154 {h : zH} {mk : Nat} (hm : h 92 1 = nI mk) (hmk : mk < 80) : zCf zT znl (d + 1) 154 [.ref 91] h = some (some (.int (zmayv (h 92))), h) := by
  unfold zmayv
  rw [zn_of hm (by omega)]
  simp only [e154, q154_0, q154_1, q154_4, q154_6, q154_7, q154_10, q154_11, q154_14, q154_16, q154_17, q154_20, q154_21, q154_22, q154_23, q154_24, q154_25, q154_28, q154_29, q154_32, q154_33, q154_34, q154_35, q154_36, q154_39, q154_40, q154_43, q154_44, gf_M0, ald_n92 (show 8 < 488 by decide), ald_n92 (show 1 < 488 by decide), ald_n92 (show 2 < 488 by decide), hm, nI_add, ald_n92 (show 10 + mk < 488 by omega), zn2, not_false_eq_true, z01_0, z01_1, zpi, Option.bind_some, Option.toList_some, Option.toList_none, List.cons_append, List.nil_append, zB_go, zB_end, zB_no, zokv_i, zokv_r, zokv_n, eq_self]
theorem c64 {h : zH} {s : Nat → Int32} {w mk : Nat} (hw : zW w) (hR : zRW w s h) (hm : s 1 = nI mk) (hmk : mk < 80) : zCf zT znl (d + 1) 64 [.ref w] h = some (some (.int (zmayv s)), h) := by
  obtain ⟨g1, g2, -, ⟨r9, r10, -⟩, -⟩ := hR
  have l8 := g2 2 (by decide)
  have gm := g1 mk hmk
  unfold zmayv
  rw [zn_of hm (by omega)]
  simp only [e64, q64_0, q64_1, q64_4, q64_5, q64_6, q64_9, q64_10, q64_13, q64_14, q64_17, q64_18, q64_19, q64_22, q64_23, q64_26, q64_27, q64_28, q64_31, q64_32, q64_35, q64_36, gf_W0 hw, gf_W1 hw, gf_W9 hw, gf_W10 hw, ald_W2 hw (show 2 < 3 by decide), l8, r9, r10, hm, ald_W1 hw hmk, gm, zn2, not_false_eq_true, z01_0, z01_1, zpi, Option.bind_some, Option.toList_some, Option.toList_none, List.cons_append, List.nil_append, zB_go, zB_end, zB_no, zokv_i, zokv_r, zokv_n, eq_self]
end LP
