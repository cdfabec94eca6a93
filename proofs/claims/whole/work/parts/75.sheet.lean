/-! ===== sheets ===== -/
theorem zsx8 (a : Int32) : (a <<< (nI 24 &&& 31)) >>> (nI 24 &&& 31) = a.toInt8.toInt32 := by
  apply Int32.toInt_inj.mp
  have e1 := pk_shl a (nI 24 &&& 31) 24 (by decide)
  have e2 : (a <<< (nI 24 &&& 31)).toInt = (a <<< (nI 24 &&& 31)).toBitVec.toInt := rfl
  have e3 : a.toInt = a.toBitVec.toInt := rfl
  rw [BitVec.toInt_eq_toNat_cond] at e2 e3
  have lt := a.toBitVec.isLt
  rw [pk_shr _ _ 24 (by decide), Int8.toInt_toInt32, Int32.toInt_toInt8, Int.bmod_def, Int.shiftRight_eq_div_pow, e2, e3, e1]
  generalize a.toBitVec.toNat = A at *
  split <;> split <;> omega
theorem zsx16 (a : Int32) : (a <<< (nI 16 &&& 31)) >>> (nI 16 &&& 31) = a.toInt16.toInt32 := by
  apply Int32.toInt_inj.mp
  have e1 := pk_shl a (nI 16 &&& 31) 16 (by decide)
  have e2 : (a <<< (nI 16 &&& 31)).toInt = (a <<< (nI 16 &&& 31)).toBitVec.toInt := rfl
  have e3 : a.toInt = a.toBitVec.toInt := rfl
  rw [BitVec.toInt_eq_toNat_cond] at e2 e3
  have lt := a.toBitVec.isLt
  rw [pk_shr _ _ 16 (by decide), Int16.toInt_toInt32, Int32.toInt_toInt16, Int.bmod_def, Int.shiftRight_eq_div_pow, e2, e3, e1]
  generalize a.toBitVec.toNat = A at *
  split <;> split <;> omega
theorem zsx32 (a : Int32) : (a <<< (nI 0 &&& 31)) >>> (nI 0 &&& 31) = a := by
  apply Int32.toInt_inj.mp
  have e1 := pk_shl a (nI 0 &&& 31) 0 (by decide)
  have e2 : (a <<< (nI 0 &&& 31)).toInt = (a <<< (nI 0 &&& 31)).toBitVec.toInt := rfl
  have e3 : a.toInt = a.toBitVec.toInt := rfl
  rw [BitVec.toInt_eq_toNat_cond] at e2 e3
  have lt := a.toBitVec.isLt
  rw [pk_shr _ _ 0 (by decide), Int.shiftRight_eq_div_pow, e2, e3, e1]
  generalize a.toBitVec.toNat = A at *
  split <;> split <;> omega
def zSh1 (h : zH) (k : Nat) : Prop := (∃ n, n ≤ 24 ∧ h (82 + 2 * k) 2 = nI n ∧ h 103 k = nI n) ∧ h (82 + 2 * k) 1 = h 102 k ∧ (h 102 k = nI 0 ∨ h 102 k = nI 8 ∨ h 102 k = nI 16 ∨ h 102 k = nI 32) ∧ ∀ i, i < 24 → h (82 + 2 * k + 1) i = h 104 (24 * k + i)
theorem zSh_upd {h h' : zH} {k : Nat} (S : zSh h) (n : zSh1 h' k) (f : ∀ a, 82 ≤ a → a < 90 → a ≠ 82 + 2 * k → a ≠ 83 + 2 * k → h' a = h a) (g2 : ∀ j, j ≠ k → h' 102 j = h 102 j) (g3 : ∀ j, j ≠ k → h' 103 j = h 103 j) (g4 : ∀ i, ¬ (24 * k ≤ i ∧ i < 24 * k + 24) → h' 104 i = h 104 i) : zSh h' := fun j hj => by
  by_cases e : j = k
  · subst e; exact n
  · obtain ⟨s1, s2, s3, s4⟩ := S j hj
    refine ⟨?_, ?_, ?_, fun i hi => ?_⟩
    · rw [f _ (by omega) (by omega) (by omega) (by omega), g3 j e]; exact s1
    · rw [f _ (by omega) (by omega) (by omega) (by omega), g2 j e]; exact s2
    · rw [g2 j e]; exact s3
    · rw [f _ (by omega) (by omega) (by omega) (by omega), g4 _ (by omega)]; exact s4 i hi
theorem Rel_sh {h h' : zH} (R : Rel h) (S : zSh h') (f : ∀ a, ¬ (82 ≤ a ∧ a < 90) → ¬ (102 ≤ a ∧ a ≤ 105) → h' a = h a) : Rel h' := by
  obtain ⟨⟨N, mk, z⟩, r, e, i, t, -⟩ := R
  have k := f 92 (by omega) (by omega)
  refine ⟨⟨N, mk, by rw [k]; exact z⟩, ?_, zE_f e fun a ha => f a (by omega) (by omega), zIm_f i (fun a ha => f a (by omega) (by omega)) (by rw [f 91 (by omega) (by omega)]), zTr_f t (fun a ha => f a (by omega) (by omega)) (by rw [f 91 (by omega) (by omega)]), S⟩
  rw [k]
  exact zRW_keep r fun a h1 h2 _ _ _ _ => f a (by omega) (by omega)
section O75
variable (d : Nat) {h : zH}
theorem c37x (x : Int32) (h : zH) : zCf zT znl (d + 2) 37 [.int x] h = some (some (.int (zwi x (nI 0) (nI 3))), h) := c37 d h x
theorem c191 (x : Int32) (h : zH) : zCf zT znl (d + 2) 191 [.int x] h = some (some (.int (zwi x (nI 0) (nI 3))), h) := by
  simp only [e191, q191_0, q191_1, q191_2, q191_3, q191_6, c107, zwi_01, Option.bind_some, Option.toList_some, Option.toList_none, List.cons_append, List.nil_append, zB_go, zB_end, zB_no, zokv_i, zokv_r, zokv_n, eq_self]
theorem w103 {a : Nat} (ha : zSt a) {b n : Int32} : ∀ (m i : Nat) (h : zH), i + m = 24 → ∃ h', zXf zT znl d 103 12 [.ref a, .int b, .int n, .int (nI i)] [] h = some (none, h') ∧ (∀ j, h' (a + 1) j = if i ≤ j ∧ j < 24 then nI 0 else h (a + 1) j) ∧ ∀ x, x ≠ a + 1 → h' x = h x := by
  intro m
  induction m with
  | zero =>
    intro i h hi
    have le : nI 24 ≤ nI i := by rw [show i = 24 by omega]; exact Int32.le_refl _
    refine ⟨h, ?_, fun j => by rw [if_neg (by omega)], fun _ _ => rfl⟩
    rw [q103_12]
    simp only [q103_13, q103_15, q103_31, le, zn1_0, if_true, if_false, ↓reduceIte, Option.bind_some, Option.toList_some, Option.toList_none, List.cons_append, List.nil_append, zB_go, zB_end, zB_no, zokv_i, zokv_r, zokv_n, eq_self]
  | succ m ih =>
    intro i h hi
    have le : ¬ nI 24 ≤ nI i := nI_ge (by omega) (by decide)
    obtain ⟨h', p1, p2, p3⟩ := ih (i + 1) (zup h (a + 1) i (nI 0)) (by omega)
    have i24 : i < 24 := by omega
    refine ⟨h', ?_, fun j => ?_, fun x hx => by rw [p3 x hx, zup_row_ne hx]⟩
    · rw [← p1, q103_12]
      simp only [q103_13, q103_15, q103_18, q103_19, q103_22, q103_23, q103_24, q103_25, q103_28, gf_S0 ha, ast_S1 ha i24, le, nI_add, zn1_0, if_true, if_false, ↓reduceIte, Option.bind_some, Option.toList_some, Option.toList_none, List.cons_append, List.nil_append, zB_go, zB_end, zB_no, zokv_i, zokv_r, zokv_n, eq_self]
    · rw [p2 j]
      by_cases y : j = i
      · subst y
        rw [if_neg (by omega), if_pos (by omega), zup_at]
      · rw [zup_o y]
        by_cases w : i + 1 ≤ j ∧ j < 24
        · rw [if_pos w, if_pos (by omega)]
        · rw [if_neg w, if_neg (by omega)]
theorem c103 {a : Nat} (ha : zSt a) {b n : Int32} (h : zH) : ∃ h', zCf zT znl (d + 1) 103 [.ref a, .int b, .int n] h = some (none, h') ∧ h' a 1 = b ∧ h' a 2 = n ∧ (∀ j, j < 24 → h' (a + 1) j = nI 0) ∧ ∀ x, x ≠ a → x ≠ a + 1 → h' x = h x := by
  obtain ⟨h', p1, p2, p3⟩ := w103 d ha (b := b) (n := n) 24 0 (zup (zup h a 1 b) a 2 n) (by omega)
  refine ⟨h', ?_, ?_, ?_, fun j hj => by rw [p2 j, if_pos ⟨Nat.zero_le _, hj⟩], fun x h1 h2 => by rw [p3 x h2, zup_row_ne h1, zup_row_ne h1]⟩
  · rw [← p1]
    simp only [e103, q103_0, q103_1, q103_2, q103_5, q103_6, q103_7, q103_10, q103_11, pf_S1 ha, pf_S2 ha, Option.bind_some, Option.toList_some, Option.toList_none, List.cons_append, List.nil_append, zB_go, zB_end, zB_no, zokv_i, zokv_r, zokv_n, eq_self]
  · rw [p3 a (by omega), zup_o (by decide), zup_at]
  · rw [p3 a (by omega), zup_at]
theorem w192 {k : Nat} (hk : k < 4) {b n : Int32} : ∀ (m i : Nat) (h : zH), i + m = 24 → ∃ h', zXf zT znl d 192 90 [.ref 91, .int (nI k), .int b, .int n, .int (nI i)] [] h = some (some (.int (nI 1)), h') ∧ (∀ j, h' 104 j = if 24 * k + i ≤ j ∧ j < 24 * k + 24 then nI 0 else h 104 j) ∧ ∀ x, x ≠ 104 → h' x = h x := by
  intro m
  induction m with
  | zero =>
    intro i h hi
    have le : nI 24 ≤ nI i := by rw [show i = 24 by omega]; exact Int32.le_refl _
    refine ⟨h, ?_, fun j => by rw [if_neg (by omega)], fun _ _ => rfl⟩
    rw [q192_90]
    simp only [q192_92, q192_94, q192_116, q192_117, le, zn1_0, if_true, if_false, ↓reduceIte, Option.bind_some, Option.toList_some, Option.toList_none, List.cons_append, List.nil_append, zB_go, zB_end, zB_no, zokv_i, zokv_r, zokv_n, eq_self]
  | succ m ih =>
    intro i h hi
    have le : ¬ nI 24 ≤ nI i := nI_ge (by omega) (by decide)
    obtain ⟨h', p1, p2, p3⟩ := ih (i + 1) (zup h 104 (24 * k + i) (nI 0)) (by omega)
    refine ⟨h', ?_, fun j => ?_, fun x hx => by rw [p3 x hx, zup_row_ne hx]⟩
    · rw [← p1, q192_90]
      simp only [q192_92, q192_94, q192_97, q192_98, q192_101, q192_103, q192_104, q192_105, q192_107, q192_108, q192_109, q192_110, q192_113, gf_M20, pk_mul, ast_n104 (show 24 * k + i < 96 by omega), le, nI_add, zn1_0, if_true, if_false, ↓reduceIte, Option.bind_some, Option.toList_some, Option.toList_none, List.cons_append, List.nil_append, zB_go, zB_end, zB_no, zokv_i, zokv_r, zokv_n, eq_self]
    · rw [p2 j]
      by_cases y : j = 24 * k + i
      · subst y
        rw [if_neg (by omega), if_pos (by omega), zup_at]
      · rw [zup_o y]
        by_cases w : 24 * k + (i + 1) ≤ j ∧ j < 24 * k + 24
        · rw [if_pos w, if_pos (by omega)]
        · rw [if_neg w, if_neg (by omega)]
/-- a sheet is laid, both sides -/
theorem o38_l {k b n : Nat} {y w : Int32} (hk : k < 4) (hb : b = 0 ∨ b = 8 ∨ b = 16 ∨ b = 32) (hn : n ≤ 24) (R : Rel h) (c : ∀ h1, zCf zT znl (d + 59) 103 [.ref (82 + 2 * k), .int (nI b), .int (nI n)] h = some (none, h1) → zCf zT znl (d + 60) 38 [.ref 0, .int (nI k), .int y, .int w] h = some (some (.int (nI 1)), h1)) (m : ∀ g, ∃ a4, zCf zT znl (d + 60) 192 [.ref 91, .int (nI k), .int y, .int w] g = zXf zT znl (d + 59) 192 90 [.ref 91, .int (nI k), .int y, .int w, .int (nI 0)] [] (zup (zup g 102 k (nI b)) 103 k (nI n)) ∧ a4 = (0 : Nat)) : zOp (d + 60) 38 192 [.int (nI k), .int y, .int w] h := by
  obtain ⟨-, -, -, -, -, S⟩ := id R
  obtain ⟨h1, p1, p2, p3, p4, p5⟩ := c103 (d + 58) (zSt_of k hk) (b := nI b) (n := nI n) h
  obtain ⟨-, m1, -⟩ := m h1
  obtain ⟨h2, q1, q2, q3⟩ := w192 (d + 59) hk (b := y) (n := w) 24 0 (zup (zup h1 102 k (nI b)) 103 k (nI n)) (by omega)
  refine ⟨nI 1, h1, h2, c h1 p1, by rw [m1, q1], Rel_sh R (zSh_upd (k := k) S ⟨⟨n, hn, ?_, ?_⟩, ?_, ?_, fun i hi => ?_⟩ (fun a g1 g2 g3 g4 => ?_) (fun j hj => ?_) (fun j hj => ?_) fun i hi => ?_) fun a g1 g2 => ?_⟩
  · rw [q3 _ (by omega), zup_row_ne (by omega), zup_row_ne (by omega)]; exact p3
  · rw [q3 _ (by omega), zup_at]
  · rw [q3 _ (by omega), q3 _ (by omega), zup_row_ne (by omega), zup_row_ne (by omega), zup_row_ne (by omega), zup_at]; exact p2
  · rw [q3 _ (by omega), zup_row_ne (by omega), zup_at]
    rcases hb with rfl | rfl | rfl | rfl
    · exact Or.inl rfl
    · exact Or.inr (Or.inl rfl)
    · exact Or.inr (Or.inr (Or.inl rfl))
    · exact Or.inr (Or.inr (Or.inr rfl))
  · rw [q3 _ (by omega), zup_row_ne (by omega), zup_row_ne (by omega), p4 i hi, q2, if_pos (by omega)]
  · rw [q3 _ (by omega), zup_row_ne (by omega), zup_row_ne (by omega), p5 _ (by omega) (by omega)]
  · rw [q3 _ (by omega), zup_row_ne (by omega), zup_o hj, p5 _ (by omega) (by omega)]
  · rw [q3 _ (by omega), zup_o hj, zup_row_ne (by omega), p5 _ (by omega) (by omega)]
  · rw [q2 i, if_neg (by omega), zup_row_ne (by omega), zup_row_ne (by omega), p5 _ (by omega) (by omega)]
  · rw [q3 _ (by omega), zup_row_ne (by omega), zup_row_ne (by omega), p5 _ (by omega) (by omega)]
theorem zneg_c (x : Int32) : x < nI 0 ∨ ∃ n, n < 2 ^ 31 ∧ x = nI n := by
  by_cases a : x < nI 0
  · exact Or.inl a
  · exact Or.inr (nI_of a)
theorem o38_b {k b : Nat} (hk : k < 4) (hb : b = 8 ∨ b = 16 ∨ b = 32) (R : Rel h) (w : Int32) : zOp (d + 60) 38 192 [.int (nI k), .int (nI b), .int w] h := by
  have e : zwi (nI k) (nI 0) (nI 3) = nI 1 := zwi_in (by omega) (by decide)
  rcases zneg_c w with nw | ⟨n, hn, rfl⟩
  · have nw' : ¬ nI 0 ≤ w := Int32.not_le.mpr nw
    rcases hb with rfl | rfl | rfl
    all_goals exact zOp_k 3 R (by simp (decide := true) only [e38, q38_0, q38_1, q38_4, q38_7, q38_8, q38_11, q38_12, q38_14, q38_17, q38_18, q38_20, q38_23, q38_24, q38_26, q38_35, q38_36, q38_52, q38_53, q38_56, q38_57, q38_58, q38_61, c37x, e, nw', ce_1, ce_2, ce_3, ce_4, ce_5, ce_6, cm_1, cm_2, cm_3, cm_4, cm_5, cm_6, rc_L, rc_M, zn1_0, if_true, if_false, ↓reduceIte, Option.bind_some, Option.toList_some, Option.toList_none, List.cons_append, List.nil_append, zB_go, zB_end, zB_no, zokv_i, zokv_r, zokv_n, eq_self]) fun g hg => by simp (decide := true) only [e192, q192_0, q192_1, q192_4, q192_7, q192_8, q192_11, q192_12, q192_14, q192_17, q192_18, q192_20, q192_23, q192_24, q192_26, q192_35, q192_36, q192_39, q192_40, q192_43, q192_44, q192_45, q192_48, c191, e, nw', ce_1, ce_2, ce_3, ce_4, ce_5, ce_6, cm_1, cm_2, cm_3, cm_4, cm_5, cm_6, rc_L, rc_M, zn1_0, if_true, if_false, ↓reduceIte, Option.bind_some, Option.toList_some, Option.toList_none, List.cons_append, List.nil_append, zB_go, zB_end, zB_no, zokv_i, zokv_r, zokv_n, eq_self]
  · have nw : nI 0 ≤ nI n := nI_le (Nat.zero_le _) hn
    by_cases n24 : n ≤ 24
    · have le : nI n ≤ nI 24 := nI_le n24 (by decide)
      rcases hb with rfl | rfl | rfl
      · exact o38_l d (b := 8) hk (by decide) n24 R (fun h1 p => by simp (decide := true) only [e38, q38_0, q38_1, q38_4, q38_7, q38_8, q38_11, q38_12, q38_14, q38_17, q38_18, q38_20, q38_23, q38_24, q38_26, q38_35, q38_36, q38_52, q38_53, q38_62, q38_63, q38_65, q38_74, q38_75, q38_78, q38_79, q38_80, q38_81, q38_82, q38_85, q38_86, c37x, e, nw, le, gf_L6, aal_S hk, p, rc_S (zSt_of k hk), ce_1, ce_2, ce_3, ce_4, ce_5, ce_6, cm_1, cm_2, cm_3, cm_4, cm_5, cm_6, rc_L, rc_M, zn1_0, if_true, if_false, ↓reduceIte, Option.bind_some, Option.toList_some, Option.toList_none, List.cons_append, List.nil_append, zB_go, zB_end, zB_no, zokv_i, zokv_r, zokv_n, eq_self]) fun g => ⟨0, by simp (decide := true) only [e192, q192_0, q192_1, q192_4, q192_7, q192_8, q192_11, q192_12, q192_14, q192_17, q192_18, q192_20, q192_23, q192_24, q192_26, q192_35, q192_36, q192_39, q192_40, q192_49, q192_50, q192_53, q192_54, q192_56, q192_65, q192_66, q192_69, q192_70, q192_71, q192_72, q192_73, q192_76, q192_77, q192_78, q192_85, q192_86, q192_87, q192_88, c191, e, nw, le, gf_M18, gf_M19, ast_n102 hk, ast_n103 hk, ce_1, ce_2, ce_3, ce_4, ce_5, ce_6, cm_1, cm_2, cm_3, cm_4, cm_5, cm_6, rc_L, rc_M, zn1_0, if_true, if_false, ↓reduceIte, Option.bind_some, Option.toList_some, Option.toList_none, List.cons_append, List.nil_append, zB_go, zB_end, zB_no, zokv_i, zokv_r, zokv_n, eq_self], rfl⟩
      · exact o38_l d (b := 16) hk (by decide) n24 R (fun h1 p => by simp (decide := true) only [e38, q38_0, q38_1, q38_4, q38_7, q38_8, q38_11, q38_12, q38_14, q38_17, q38_18, q38_20, q38_23, q38_24, q38_26, q38_35, q38_36, q38_52, q38_53, q38_62, q38_63, q38_65, q38_74, q38_75, q38_78, q38_79, q38_80, q38_81, q38_82, q38_85, q38_86, c37x, e, nw, le, gf_L6, aal_S hk, p, rc_S (zSt_of k hk), ce_1, ce_2, ce_3, ce_4, ce_5, ce_6, cm_1, cm_2, cm_3, cm_4, cm_5, cm_6, rc_L, rc_M, zn1_0, if_true, if_false, ↓reduceIte, Option.bind_some, Option.toList_some, Option.toList_none, List.cons_append, List.nil_append, zB_go, zB_end, zB_no, zokv_i, zokv_r, zokv_n, eq_self]) fun g => ⟨0, by simp (decide := true) only [e192, q192_0, q192_1, q192_4, q192_7, q192_8, q192_11, q192_12, q192_14, q192_17, q192_18, q192_20, q192_23, q192_24, q192_26, q192_35, q192_36, q192_39, q192_40, q192_49, q192_50, q192_53, q192_54, q192_56, q192_65, q192_66, q192_69, q192_70, q192_71, q192_72, q192_73, q192_76, q192_77, q192_78, q192_85, q192_86, q192_87, q192_88, c191, e, nw, le, gf_M18, gf_M19, ast_n102 hk, ast_n103 hk, ce_1, ce_2, ce_3, ce_4, ce_5, ce_6, cm_1, cm_2, cm_3, cm_4, cm_5, cm_6, rc_L, rc_M, zn1_0, if_true, if_false, ↓reduceIte, Option.bind_some, Option.toList_some, Option.toList_none, List.cons_append, List.nil_append, zB_go, zB_end, zB_no, zokv_i, zokv_r, zokv_n, eq_self], rfl⟩
      · exact o38_l d (b := 32) hk (by decide) n24 R (fun h1 p => by simp (decide := true) only [e38, q38_0, q38_1, q38_4, q38_7, q38_8, q38_11, q38_12, q38_14, q38_17, q38_18, q38_20, q38_23, q38_24, q38_26, q38_35, q38_36, q38_52, q38_53, q38_62, q38_63, q38_65, q38_74, q38_75, q38_78, q38_79, q38_80, q38_81, q38_82, q38_85, q38_86, c37x, e, nw, le, gf_L6, aal_S hk, p, rc_S (zSt_of k hk), ce_1, ce_2, ce_3, ce_4, ce_5, ce_6, cm_1, cm_2, cm_3, cm_4, cm_5, cm_6, rc_L, rc_M, zn1_0, if_true, if_false, ↓reduceIte, Option.bind_some, Option.toList_some, Option.toList_none, List.cons_append, List.nil_append, zB_go, zB_end, zB_no, zokv_i, zokv_r, zokv_n, eq_self]) fun g => ⟨0, by simp (decide := true) only [e192, q192_0, q192_1, q192_4, q192_7, q192_8, q192_11, q192_12, q192_14, q192_17, q192_18, q192_20, q192_23, q192_24, q192_26, q192_35, q192_36, q192_39, q192_40, q192_49, q192_50, q192_53, q192_54, q192_56, q192_65, q192_66, q192_69, q192_70, q192_71, q192_72, q192_73, q192_76, q192_77, q192_78, q192_85, q192_86, q192_87, q192_88, c191, e, nw, le, gf_M18, gf_M19, ast_n102 hk, ast_n103 hk, ce_1, ce_2, ce_3, ce_4, ce_5, ce_6, cm_1, cm_2, cm_3, cm_4, cm_5, cm_6, rc_L, rc_M, zn1_0, if_true, if_false, ↓reduceIte, Option.bind_some, Option.toList_some, Option.toList_none, List.cons_append, List.nil_append, zB_go, zB_end, zB_no, zokv_i, zokv_r, zokv_n, eq_self], rfl⟩
    · have le : ¬ nI n ≤ nI 24 := nI_ge (by omega) hn
      rcases hb with rfl | rfl | rfl
      all_goals exact zOp_k 1 R (by simp (decide := true) only [e38, q38_0, q38_1, q38_4, q38_7, q38_8, q38_11, q38_12, q38_14, q38_17, q38_18, q38_20, q38_23, q38_24, q38_26, q38_35, q38_36, q38_52, q38_53, q38_62, q38_63, q38_65, q38_68, q38_69, q38_70, q38_73, c37x, e, nw, le, ce_1, ce_2, ce_3, ce_4, ce_5, ce_6, cm_1, cm_2, cm_3, cm_4, cm_5, cm_6, rc_L, rc_M, zn1_0, if_true, if_false, ↓reduceIte, Option.bind_some, Option.toList_some, Option.toList_none, List.cons_append, List.nil_append, zB_go, zB_end, zB_no, zokv_i, zokv_r, zokv_n, eq_self]) fun g hg => by simp (decide := true) only [e192, q192_0, q192_1, q192_4, q192_7, q192_8, q192_11, q192_12, q192_14, q192_17, q192_18, q192_20, q192_23, q192_24, q192_26, q192_35, q192_36, q192_39, q192_40, q192_49, q192_50, q192_53, q192_54, q192_56, q192_59, q192_60, q192_61, q192_64, c191, e, nw, le, ce_1, ce_2, ce_3, ce_4, ce_5, ce_6, cm_1, cm_2, cm_3, cm_4, cm_5, cm_6, rc_L, rc_M, zn1_0, if_true, if_false, ↓reduceIte, Option.bind_some, Option.toList_some, Option.toList_none, List.cons_append, List.nil_append, zB_go, zB_end, zB_no, zokv_i, zokv_r, zokv_n, eq_self]
theorem o38 (R : Rel h) (x y w : Int32) : zOp (d + 60) 38 192 [.int x, .int y, .int w] h := by
  rcases zwi_c x 3 (by decide) with e | ⟨k, hk, rfl, e⟩
  · exact zOp_k 1 R (by simp only [e38, q38_0, q38_1, q38_4, q38_29, q38_30, q38_31, q38_34, c37x, e, ce_1, ce_2, ce_3, ce_4, ce_5, ce_6, cm_1, cm_2, cm_3, cm_4, cm_5, cm_6, rc_L, rc_M, zn1_0, if_true, if_false, ↓reduceIte, Option.bind_some, Option.toList_some, Option.toList_none, List.cons_append, List.nil_append, zB_go, zB_end, zB_no, zokv_i, zokv_r, zokv_n, eq_self]) fun g hg => by simp only [e192, q192_0, q192_1, q192_4, q192_29, q192_30, q192_31, q192_34, c191, e, ce_1, ce_2, ce_3, ce_4, ce_5, ce_6, cm_1, cm_2, cm_3, cm_4, cm_5, cm_6, rc_L, rc_M, zn1_0, if_true, if_false, ↓reduceIte, Option.bind_some, Option.toList_some, Option.toList_none, List.cons_append, List.nil_append, zB_go, zB_end, zB_no, zokv_i, zokv_r, zokv_n, eq_self]
  by_cases y0 : y = nI 0
  · subst y0
    exact o38_l d (by omega) (Or.inl rfl) (n := 0) (by decide) R (fun h1 p => by simp only [e38, q38_0, q38_1, q38_4, q38_7, q38_8, q38_35, q38_36, q38_39, q38_40, q38_43, q38_44, q38_45, q38_46, q38_47, q38_50, q38_51, c37x, e, gf_L6, aal_S (show k < 4 by omega), p, rc_S (zSt_of k (by omega)), ce_1, ce_2, ce_3, ce_4, ce_5, ce_6, cm_1, cm_2, cm_3, cm_4, cm_5, cm_6, rc_L, rc_M, zn1_0, if_true, if_false, ↓reduceIte, Option.bind_some, Option.toList_some, Option.toList_none, List.cons_append, List.nil_append, zB_go, zB_end, zB_no, zokv_i, zokv_r, zokv_n, eq_self]) fun g => ⟨0, by simp only [e192, q192_0, q192_1, q192_4, q192_7, q192_8, q192_35, q192_36, q192_49, q192_50, q192_65, q192_66, q192_69, q192_70, q192_71, q192_72, q192_73, q192_76, q192_77, q192_78, q192_81, q192_82, q192_86, q192_87, q192_88, c191, e, gf_M18, gf_M19, ast_n102 (show k < 4 by omega), ast_n103 (show k < 4 by omega), ce_1, ce_2, ce_3, ce_4, ce_5, ce_6, cm_1, cm_2, cm_3, cm_4, cm_5, cm_6, rc_L, rc_M, zn1_0, if_true, if_false, ↓reduceIte, Option.bind_some, Option.toList_some, Option.toList_none, List.cons_append, List.nil_append, zB_go, zB_end, zB_no, zokv_i, zokv_r, zokv_n, eq_self], rfl⟩
  by_cases y8 : y = nI 8
  · subst y8; exact o38_b d (by omega) (Or.inl rfl) R w
  by_cases y16 : y = nI 16
  · subst y16; exact o38_b d (by omega) (Or.inr (Or.inl rfl)) R w
  by_cases y32 : y = nI 32
  · subst y32; exact o38_b d (by omega) (Or.inr (Or.inr rfl)) R w
  exact zOp_k 1 R (by simp only [e38, q38_0, q38_1, q38_4, q38_7, q38_8, q38_11, q38_12, q38_14, q38_17, q38_18, q38_20, q38_23, q38_24, q38_26, q38_29, q38_30, q38_31, q38_34, c37x, e, y0, y8, y16, y32, ce_1, ce_2, ce_3, ce_4, ce_5, ce_6, cm_1, cm_2, cm_3, cm_4, cm_5, cm_6, rc_L, rc_M, zn1_0, if_true, if_false, ↓reduceIte, Option.bind_some, Option.toList_some, Option.toList_none, List.cons_append, List.nil_append, zB_go, zB_end, zB_no, zokv_i, zokv_r, zokv_n, eq_self]) fun g hg => by simp only [e192, q192_0, q192_1, q192_4, q192_7, q192_8, q192_11, q192_12, q192_14, q192_17, q192_18, q192_20, q192_23, q192_24, q192_26, q192_29, q192_30, q192_31, q192_34, c191, e, y0, y8, y16, y32, ce_1, ce_2, ce_3, ce_4, ce_5, ce_6, cm_1, cm_2, cm_3, cm_4, cm_5, cm_6, rc_L, rc_M, zn1_0, if_true, if_false, ↓reduceIte, Option.bind_some, Option.toList_some, Option.toList_none, List.cons_append, List.nil_append, zB_go, zB_end, zB_no, zokv_i, zokv_r, zokv_n, eq_self]
end O75
