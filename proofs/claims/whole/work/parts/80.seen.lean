/-! ===== rounds: what is seen ===== -/
def zrd (s : Nat → Int32) (c : Nat) : Int32 := if c = 0 then s 1 else if c - 1 < zn s 0 then s (90 + 8 * (c - 1) + 4) else nI 0
def zAgain (s : Nat → Int32) (i j : Nat) : Prop := i < j ∧ (j - i) % 4 = 0 ∧ ∀ c, c < 9 → zrd (zwks i s) c = zrd (zwks j s) c
theorem zwks_s : ∀ (n : Nat) (s : Nat → Int32), zwks (n + 1) s = zweek (zwks n s)
  | 0, _ => rfl
  | n + 1, s => zwks_s n (zweek s)
def zsame (f g : Nat → Int32) : Nat → Nat → Bool
  | 0, _ => true
  | m + 1, c => if f c = g c then zsame f g m (c + 1) else false
theorem zsame_iff {f g : Nat → Int32} : ∀ (m c : Nat), zsame f g m c = true ↔ ∀ i, c ≤ i → i < c + m → f i = g i
  | 0, c => ⟨fun _ i h1 h2 => absurd h1 (by omega), fun _ => rfl⟩
  | m + 1, c => by
    unfold zsame
    by_cases e : f c = g c
    · rw [if_pos e, zsame_iff m (c + 1)]
      constructor
      · intro h i h1 h2
        by_cases y : i = c
        · subst y; exact e
        · exact h i (by omega) (by omega)
      · intro h i h1 h2
        exact h i (by omega) (by omega)
    · rw [if_neg e]
      exact ⟨fun y => (by cases y), fun h => absurd (h c (Nat.le_refl _) (by omega)) e⟩
theorem zrem4 : ∀ x, x < 202 → nI x % nI 4 = nI (x % 4) := by decide +kernel
theorem zrem4_0 : ∀ x, x < 202 → (nI (x % 4) = nI 0 ↔ x % 4 = 0) := by decide +kernel
section O80
variable (d : Nat) {h : zH}
theorem w99 {N mk w : Nat} {s : Nat → Int32} (hw : w < 201) (z : zJ s N mk) : ∀ (m i : Nat) (h : zH), i + m = 8 → zRW 49 s h → ∃ h', zXf zT znl d 99 29 [.ref 106, .ref 49, .int (nI w), .ref (108 + w), .int (nI i)] [] h = some (none, h') ∧ (∀ c, h' (108 + w) c = if 1 + i ≤ c ∧ c < 9 then zrd s c else h (108 + w) c) ∧ ∀ x, x ≠ 108 + w → h' x = h x := by
  have hN8 := z.2.1
  intro m
  induction m with
  | zero =>
    intro i h hi r
    have le : nI 8 ≤ nI i := by rw [show i = 8 by omega]; exact Int32.le_refl _
    refine ⟨h, ?_, fun c => by rw [if_neg (by omega)], fun _ _ => rfl⟩
    rw [q99_29]
    simp only [q99_31, q99_33, q99_70, le, zn1_0, if_true, if_false, ↓reduceIte, Option.bind_some, Option.toList_some, Option.toList_none, List.cons_append, List.nil_append, zB_go, zB_end, zB_no, zokv_i, zokv_r, zokv_n, eq_self]
  | succ m ih =>
    intro i h hi r
    have le : ¬ nI 8 ≤ nI i := nI_ge (by omega) (by decide)
    have h12 : h 49 12 = nI N := r.2.2.2.1.2.2.2.1.trans z.1
    have i8 : i < 8 := by omega
    have g1 : h (49 + 4 + i) 4 = s (90 + 8 * i + 4) := r.2.2.1 i i8 4 (by decide)
    have e1 : zrd s (1 + i) = if i < N then s (90 + 8 * i + 4) else nI 0 := by
      unfold zrd
      rw [if_neg (by omega), zn_of z.1 (by omega), show 1 + i - 1 = i by omega]
    obtain ⟨h', p1, p2, p3⟩ := ih (i + 1) (zup h (108 + w) (1 + i) (zrd s (1 + i))) (by omega) (zRW_keep r fun a q1 q2 _ _ _ _ => zup_row_ne (by omega))
    refine ⟨h', ?_, fun c => ?_, fun x hx => by rw [p3 x hx, zup_row_ne hx]⟩
    · rw [← p1, q99_29]
      by_cases q : i < N
      · have le2 : ¬ nI N ≤ nI i := nI_ge q (by omega)
        rw [if_pos q] at e1
        simp only [q99_31, q99_33, q99_36, q99_37, q99_38, q99_40, q99_41, q99_43, q99_44, q99_47, q99_50, q99_51, q99_54, q99_56, q99_57, q99_58, q99_59, q99_63, q99_64, q99_67, gf_W12 zW_49, gf_W2 zW_49, aal_W zW_49 i8, ald_row zW_49 i8 (show 4 < 8 by decide), nI_add, ast_seen hw (show 1 + i < 9 by omega), h12, g1, le, le2, e1, zn1_0, if_true, if_false, ↓reduceIte, Option.bind_some, Option.toList_some, Option.toList_none, List.cons_append, List.nil_append, zB_go, zB_end, zB_no, zokv_i, zokv_r, zokv_n, eq_self]
      · have le2 : nI N ≤ nI i := nI_le (by omega) (by omega)
        rw [if_neg q] at e1
        simp only [q99_31, q99_33, q99_36, q99_37, q99_38, q99_40, q99_41, q99_43, q99_44, q99_47, q99_62, q99_63, q99_64, q99_67, gf_W12 zW_49, nI_add, ast_seen hw (show 1 + i < 9 by omega), h12, le, le2, e1, zn1_0, if_true, if_false, ↓reduceIte, Option.bind_some, Option.toList_some, Option.toList_none, List.cons_append, List.nil_append, zB_go, zB_end, zB_no, zokv_i, zokv_r, zokv_n, eq_self]
    · rw [p2 c]
      by_cases y : c = 1 + i
      · subst y
        rw [if_neg (by omega), if_pos (by omega), zup_at]
      · rw [zup_o y]
        by_cases v : 1 + (i + 1) ≤ c ∧ c < 9
        · rw [if_pos v, if_pos (by omega)]
        · rw [if_neg v, if_neg (by omega)]
theorem c99 {N mk w : Nat} {s : Nat → Int32} (hw : w < 201) (z : zJ s N mk) (h : zH) (r : zRW 49 s h) : ∃ h', zCf zT znl (d + 2) 99 [.ref 106, .ref 49, .int (nI w)] h = some (none, h') ∧ (∀ c, c < 9 → h' (108 + w) c = zrd s c) ∧ ∀ x, x ≠ 108 + w → h' x = h x := by
  have e : zwi (nI w) (nI 0) (nI 200) = nI 1 := zwi_in (by omega) (by decide)
  have r9 : h 49 9 = s 1 := r.2.2.2.1.1
  obtain ⟨h', p1, p2, p3⟩ := w99 (d + 1) hw z 8 0 (zup h (108 + w) 0 (s 1)) (by omega) (zRW_keep r fun a q1 q2 _ _ _ _ => zup_row_ne (by omega))
  refine ⟨h', ?_, fun c hc => ?_, fun x hx => by rw [p3 x hx, zup_row_ne hx]⟩
  · rw [← p1]
    simp only [e99, q99_0, q99_1, q99_2, q99_5, q99_8, q99_12, q99_13, q99_16, q99_17, q99_18, q99_19, q99_20, q99_21, q99_22, q99_25, q99_26, q99_27, c0, e, gf_D0, aal_D hw, gf_W9 zW_49, r9, ast_seen hw (show 0 < 9 by decide), zn1_0, if_true, if_false, ↓reduceIte, Option.bind_some, Option.toList_some, Option.toList_none, List.cons_append, List.nil_append, zB_go, zB_end, zB_no, zokv_i, zokv_r, zokv_n, eq_self]
  · rw [p2 c]
    by_cases y : c = 0
    · subst y
      rw [if_neg (by omega), zup_at]
      rfl
    · rw [if_pos (by omega)]
theorem w100 {i j : Nat} (hi : i < 201) (hj : j < 201) : ∀ (m c : Nat), c + m = 9 → zXf zT znl d 100 2 [.ref (108 + i), .ref (108 + j), .int (nI c)] [] h = some (some (.int (if zsame (h (108 + i)) (h (108 + j)) m c = true then nI 1 else nI 0)), h) := by
  intro m
  induction m with
  | zero =>
    intro c hc
    have le : nI 9 ≤ nI c := by rw [show c = 9 by omega]; exact Int32.le_refl _
    rw [q100_2]
    simp only [q100_3, q100_5, q100_25, q100_26, le, z01_1, zsame, zn1_0, if_true, if_false, ↓reduceIte, Option.bind_some, Option.toList_some, Option.toList_none, List.cons_append, List.nil_append, zB_go, zB_end, zB_no, zokv_i, zokv_r, zokv_n, eq_self]
  | succ m ih =>
    intro c hc
    have le : ¬ nI 9 ≤ nI c := nI_ge (by omega) (by decide)
    unfold zsame
    by_cases e : h (108 + i) c = h (108 + j) c
    · rw [if_pos e, ← ih (c + 1) (by omega), q100_2]
      simp only [q100_3, q100_5, q100_8, q100_9, q100_10, q100_11, q100_12, q100_13, q100_14, q100_19, q100_22, ald_seen hi (show c < 9 by omega), ald_seen hj (show c < 9 by omega), le, e, nI_add, zn1_0, if_true, if_false, ↓reduceIte, Option.bind_some, Option.toList_some, Option.toList_none, List.cons_append, List.nil_append, zB_go, zB_end, zB_no, zokv_i, zokv_r, zokv_n, eq_self]
    · rw [if_neg e, q100_2]
      simp only [q100_3, q100_5, q100_8, q100_9, q100_10, q100_11, q100_12, q100_13, q100_14, q100_17, q100_18, ald_seen hi (show c < 9 by omega), ald_seen hj (show c < 9 by omega), le, e, z01_0, Bool.false_eq_true, zn1_0, if_true, if_false, ↓reduceIte, Option.bind_some, Option.toList_some, Option.toList_none, List.cons_append, List.nil_append, zB_go, zB_end, zB_no, zokv_i, zokv_r, zokv_n, eq_self]
theorem c100 {i j : Nat} (hi : i < 201) (hj : j < 201) (h : zH) : zCf zT znl (d + 1) 100 [.ref (108 + i), .ref (108 + j)] h = some (some (.int (if zsame (h (108 + i)) (h (108 + j)) 9 0 = true then nI 1 else nI 0)), h) := by
  rw [← w100 d hi hj 9 0 (by omega)]
  simp only [e100, q100_0, q100_1, Option.bind_some, Option.toList_some, Option.toList_none, List.cons_append, List.nil_append, zB_go, zB_end, zB_no, zokv_i, zokv_r, zokv_n, eq_self]
theorem w101 {w : Nat} (hw : w < 201) : ∀ (r : Nat), r < w → (w - r) % 4 = 0 → ∃ res, zXf zT znl (d + 1) 101 4 [.ref 106, .int (nI w), .int (nI r)] [] h = some (some (.int res), h) ∧ ((res = -1 ∧ ∀ i, i ≤ r → (w - i) % 4 = 0 → ¬ zsame (h (108 + i)) (h (108 + w)) 9 0 = true) ∨ ∃ i, i ≤ r ∧ (w - i) % 4 = 0 ∧ res = nI i ∧ zsame (h (108 + i)) (h (108 + w)) 9 0 = true) := by
  intro r
  induction r using Nat.strongRecOn with
  | ind r ih =>
    intro hr h4
    have n1 : ¬ nI r < nI 0 := nI_nlt (Nat.zero_le _) (by omega)
    have n2 : ¬ nI 200 < nI w := nI_nlt (by omega) (by decide)
    have cc := fun d => c100 d (show r < 201 by omega) hw h
    by_cases e : zsame (h (108 + r)) (h (108 + w)) 9 0 = true
    · rw [e, if_pos rfl] at cc
      refine ⟨nI r, ?_, Or.inr ⟨r, Nat.le_refl _, h4, rfl, e⟩⟩
      rw [q101_4]
      simp only [q101_5, q101_8, q101_9, q101_12, q101_15, q101_16, q101_19, q101_20, q101_21, q101_22, q101_25, q101_26, q101_27, q101_30, q101_33, q101_34, gf_D0, aal_D (show r < 201 by omega), aal_D hw, n1, n2, cc, zn1_0, if_true, if_false, ↓reduceIte, Option.bind_some, Option.toList_some, Option.toList_none, List.cons_append, List.nil_append, zB_go, zB_end, zB_no, zokv_i, zokv_r, zokv_n, eq_self]
    · rw [if_neg e] at cc
      by_cases q : 4 ≤ r
      · obtain ⟨res, p1, p2⟩ := ih (r - 4) (by omega) (by omega) (by omega)
        have e4 : nI r + (-4) = nI (r - 4) := by
          rw [show (-4 : Int32) = -(nI 4) by decide, ← Int32.sub_eq_add_neg, pk_sub q]
        refine ⟨res, ?_, ?_⟩
        · rw [← p1, q101_4]
          simp only [q101_5, q101_8, q101_9, q101_12, q101_15, q101_16, q101_19, q101_20, q101_21, q101_22, q101_25, q101_26, q101_27, q101_30, q101_35, q101_38, gf_D0, aal_D (show r < 201 by omega), aal_D hw, n1, n2, cc, e4, zn1_0, if_true, if_false, ↓reduceIte, Option.bind_some, Option.toList_some, Option.toList_none, List.cons_append, List.nil_append, zB_go, zB_end, zB_no, zokv_i, zokv_r, zokv_n, eq_self]
        · rcases p2 with ⟨p2, p3⟩ | ⟨i, p2, p3, p4, p5⟩
          · refine Or.inl ⟨p2, fun i hi h4' => ?_⟩
            by_cases y : i = r
            · subst y; exact e
            · exact p3 i (by omega) h4'
          · exact Or.inr ⟨i, by omega, p3, p4, p5⟩
      · have e4 : nI r + (-4) < nI 0 := by
          obtain rfl | rfl | rfl | rfl : r = 0 ∨ r = 1 ∨ r = 2 ∨ r = 3 := by omega
          all_goals decide
        refine ⟨-1, ?_, Or.inl ⟨rfl, fun i hi h4' => ?_⟩⟩
        · rw [q101_4]
          simp only [q101_5, q101_8, q101_9, q101_12, q101_15, q101_16, q101_19, q101_20, q101_21, q101_22, q101_25, q101_26, q101_27, q101_30, q101_35, q101_38, gf_D0, aal_D (show r < 201 by omega), aal_D hw, n1, n2, cc, zn1_0, if_true, if_false, ↓reduceIte, Option.bind_some, Option.toList_some, Option.toList_none, List.cons_append, List.nil_append, zB_go, zB_end, zB_no, zokv_i, zokv_r, zokv_n, eq_self]
          rw [q101_4]
          simp only [q101_5, q101_41, q101_42, e4, zn1_0, if_true, if_false, ↓reduceIte, Option.bind_some, Option.toList_some, Option.toList_none, List.cons_append, List.nil_append, zB_go, zB_end, zB_no, zokv_i, zokv_r, zokv_n, eq_self]
        · have : i = r := by omega
          subst this; exact e
theorem c101 {w : Nat} (hw : w < 201) (h : zH) : ∃ res, zCf zT znl (d + 2) 101 [.ref 106, .int (nI w)] h = some (some (.int res), h) ∧ ((res = -1 ∧ ∀ i, i < w → (w - i) % 4 = 0 → ¬ zsame (h (108 + i)) (h (108 + w)) 9 0 = true) ∨ ∃ i, i < w ∧ (w - i) % 4 = 0 ∧ res = nI i ∧ zsame (h (108 + i)) (h (108 + w)) 9 0 = true) := by
  by_cases q : 4 ≤ w
  · obtain ⟨res, p1, p2⟩ := w101 d (h := h) hw (w - 4) (by omega) (by omega)
    refine ⟨res, ?_, ?_⟩
    · rw [← p1]
      simp only [e101, q101_0, q101_1, q101_2, q101_3, pk_sub q, Option.bind_some, Option.toList_some, Option.toList_none, List.cons_append, List.nil_append, zB_go, zB_end, zB_no, zokv_i, zokv_r, zokv_n, eq_self]
    · rcases p2 with ⟨p2, p3⟩ | ⟨i, p2, p3, p4, p5⟩
      · exact Or.inl ⟨p2, fun i hi h4' => p3 i (by omega) h4'⟩
      · exact Or.inr ⟨i, by omega, p3, p4, p5⟩
  · have e4 : nI w - nI 4 < nI 0 := by
      obtain rfl | rfl | rfl | rfl : w = 0 ∨ w = 1 ∨ w = 2 ∨ w = 3 := by omega
      all_goals decide
    refine ⟨-1, ?_, Or.inl ⟨rfl, fun i hi h4' => absurd h4' (by omega)⟩⟩
    simp only [e101, q101_0, q101_1, q101_2, q101_3, Option.bind_some, Option.toList_some, Option.toList_none, List.cons_append, List.nil_append, zB_go, zB_end, zB_no, zokv_i, zokv_r, zokv_n, eq_self]
    rw [q101_4]
    simp only [q101_5, q101_41, q101_42, e4, zn1_0, if_true, if_false, ↓reduceIte, Option.bind_some, Option.toList_some, Option.toList_none, List.cons_append, List.nil_append, zB_go, zB_end, zB_no, zokv_i, zokv_r, zokv_n, eq_self]
end O80
