/-! ===== the readers: what each reads ===== -/
def zixu (u : Nat) : Int32 → Nat := if u = 0 then zix0 else zix1
def zCs (tp : Nat → Nat) (T u p : Nat) (L : List (Int32 × Int32)) (h : zH) : Prop := zRd T u p (-1) h ∧ zTp tp h ∧ zct2 h 74 (zixu u) L
def zFs (T u q : Nat) (h : zH) : Prop := h 73 1 = nI 23 ∧ h 73 2 = nI T ∧ h 73 4 = nI q ∧ h 73 5 = nI (314 + 4 * u) ∧ ∃ n, n ≤ 60 ∧ h 74 3 = nI n
def zCfr (h h' : zH) : Prop := (∀ a, a ≠ 73 → a ≠ 74 → a ≠ 75 → a ≠ 76 → h' a = h a) ∧ h' 74 4 = h 74 4
theorem zCfr_refl (h : zH) : zCfr h h := ⟨fun _ _ _ _ _ => rfl, rfl⟩
theorem zCfr_trans {a b c : zH} (x : zCfr a b) (y : zCfr b c) : zCfr a c := ⟨fun i h1 h2 h3 h4 => (y.1 i h1 h2 h3 h4).trans (x.1 i h1 h2 h3 h4), y.2.trans x.2⟩
def zwfp (u : Nat) (t : List (Int32 × Int32)) : Prop := ∀ r k, zwf (zoku u) r (k + 1) → zwf (zoku u) (t ++ r) k
def zReads (T u p q : Nat) (t : List (Int32 × Int32)) : Prop := p < q ∧ q ≤ T ∧ t.length + p ≤ q ∧ zwfp u t
def zZ (tp : Nat → Nat) (T u D kc : Nat) (asc : List Value) (D' km : Nat) (asm : List Value) (p o : Nat) : Prop :=
  (∃ q t, zReads T u p q t ∧ (∀ h L, L.length ≤ p → zCs tp T u p L h → ∃ h', zCf zT znl D kc asc h = some (none, h') ∧ zCs tp T u q (L ++ t) h' ∧ zCfr h h') ∧ (∀ g L, L.length ≤ p → zMs tp T u p o L g → ∃ g', zCf zT znl D' km asm g = some (some (.int (nI 1)), g') ∧ zMs tp T u q o (L ++ t) g' ∧ zMfr g g')) ∨
  (∃ q, q ≤ T ∧ (∀ h L, L.length ≤ p → zCs tp T u p L h → ∃ h', zCf zT znl D kc asc h = some (none, h') ∧ zFs T u q h' ∧ zCfr h h') ∧ (∀ g L, L.length ≤ p → zMs tp T u p o L g → ∃ g', zCf zT znl D' km asm g = some (some (.int (nI 0)), g') ∧ g' 91 5 = nI q ∧ zMfr g g'))
theorem zCs_at {tp : Nat → Nat} {T u p q : Nat} {L : List (Int32 × Int32)} {h : zH} (s : zCs tp T u p L h) : zCs tp T u q L (zup h 73 3 (nI q)) ∧ zCfr h (zup h 73 3 (nI q)) := by
  obtain ⟨⟨r1, r2, r3, r4, r5⟩, t, c⟩ := s
  refine ⟨⟨⟨by rw [zup_o (by decide)]; exact r1, by rw [zup_o (by decide)]; exact r2, zup_at, by rw [zup_o (by decide)]; exact r4, by rw [zup_o (by decide)]; exact r5⟩, fun i hi => by rw [zup_row_ne (by decide)]; exact t i hi, ?_⟩, fun a h1 _ _ _ => zup_row_ne h1, by rw [zup_row_ne (by decide)]⟩
  unfold zct2 at c ⊢
  rw [zup_row_ne (by decide), zup_row_ne (by decide), zup_row_ne (by decide)]
  exact c
theorem zCs_fail {tp : Nat → Nat} {T u p : Nat} {L : List (Int32 × Int32)} {h : zH} (s : zCs tp T u p L h) : zFs T u p (zup h 73 4 (nI p)) ∧ zCfr h (zup h 73 4 (nI p)) := by
  obtain ⟨⟨r1, r2, r3, r4, r5⟩, t, c⟩ := s
  exact ⟨⟨by rw [zup_o (by decide)]; exact r1, by rw [zup_o (by decide)]; exact r2, zup_at, by rw [zup_o (by decide)]; exact r5, L.length, c.2.1, by rw [zup_row_ne (by decide)]; exact c.1⟩, fun a h1 _ _ _ => zup_row_ne h1, by rw [zup_row_ne (by decide)]⟩
theorem zCs_add {tp : Nat → Nat} {T u p : Nat} {L L' : List (Int32 × Int32)} {h h' : zH} (s : zCs tp T u p L h) (c : zct2 h' 74 (zixu u) L') (f : ∀ a, a ≠ 74 → a ≠ 75 → a ≠ 76 → h' a = h a) : zCs tp T u p L' h' := by
  obtain ⟨r, t, -⟩ := s
  refine ⟨?_, fun i hi => by rw [f 23 (by decide) (by decide) (by decide)]; exact t i hi, c⟩
  unfold zRd at r ⊢
  rw [f 73 (by decide) (by decide) (by decide)]
  exact r
theorem zwfp_1 {u : Nat} {v : Int32} : zwfp u [(nI 0, v)] := fun r k h => Or.inl ⟨rfl, h⟩
theorem zwfp_2 {u : Nat} {v : Int32} (ok : zoku u v) : zwfp u [(nI 1, v)] := fun r k h => Or.inr (Or.inl ⟨rfl, ok, h⟩)
theorem zwfp_3 {u : Nat} {v : Int32} {t : List (Int32 × Int32)} (w : zwfp u t) : zwfp u (t ++ [(nI 2, v)]) := fun r k h => by
  rw [List.append_assoc]
  exact w _ _ (Or.inr (Or.inr (Or.inl ⟨rfl, by omega, h⟩)))
theorem zwfp_4 {u : Nat} {v : Int32} {t t2 : List (Int32 × Int32)} (w : zwfp u t) (w2 : zwfp u t2) (sg : zsig v) : zwfp u (t ++ (t2 ++ [(nI 3, v)])) := fun r k h => by
  rw [List.append_assoc, List.append_assoc]
  exact w _ _ (w2 _ _ (Or.inr (Or.inr (Or.inr ⟨rfl, sg, by omega, h⟩))))
/-- digits -/
def zdg (tp : Nat → Nat) (T : Nat) : Nat → Nat → Int32 → Int32 × Nat
  | 0, p, v => (v, p)
  | m + 1, p, v => if p < T ∧ 48 ≤ tp p ∧ tp p ≤ 57 then zdg tp T m (p + 1) (v * nI 10 + nI (tp p) - nI 48) else (v, p)
theorem zdg_le {tp : Nat → Nat} {T : Nat} : ∀ (m p : Nat) (v : Int32), p ≤ T → p ≤ (zdg tp T m p v).2 ∧ (zdg tp T m p v).2 ≤ T
  | 0, p, v, h => ⟨Nat.le_refl _, h⟩
  | m + 1, p, v, h => by
    unfold zdg
    split
    · rename_i q
      have := zdg_le (tp := tp) (T := T) m (p + 1) (v * nI 10 + nI (tp p) - nI 48) (by omega)
      omega
    · exact ⟨Nat.le_refl _, h⟩
theorem zwi_d {b : Nat} (hb : b < 256) : zwi (nI b) (nI 48) (nI 57) = if 48 ≤ b ∧ b ≤ 57 then nI 1 else nI 0 := by
  unfold zwi
  by_cases h1 : b < 48
  · rw [if_pos (nI_lt h1 (by decide)), if_neg (by omega)]
  · rw [if_neg (nI_nlt (by omega) (by omega))]
    by_cases h2 : 57 < b
    · rw [if_pos (nI_lt h2 (by omega)), if_neg (by omega)]
    · rw [if_neg (nI_nlt (by omega) (by decide)), if_pos (by omega)]
theorem zwi_dm : zwi (-1) (nI 48) (nI 57) = nI 0 := by decide
section O93
variable (d : Nat) {h : zH} {tp : Nat → Nat} {T u p : Nat}
theorem w87 (hT : T ≤ 60) (ht : ∀ i, i < 60 → tp i < 256) : ∀ (m i p : Nat) (v : Int32) (L : List (Int32 × Int32)) (h : zH), i + m = 4 → p ≤ T → zCs tp T u p L h → ∃ h' i', zXf zT znl (d + 1) 87 4 [.ref 73, .int v, .int (nI i)] [] h = zXf zT znl (d + 1) 87 52 [.ref 73, .int (zdg tp T m p v).1, .int (nI i')] [] h' ∧ zCs tp T u (zdg tp T m p v).2 L h' ∧ zCfr h h' := by
  intro m
  induction m with
  | zero =>
    intro i p v L h hi hp s
    have le : nI 4 ≤ nI i := by rw [show i = 4 by omega]; exact Int32.le_refl _
    refine ⟨h, i, ?_, s, zCfr_refl h⟩
    rw [q87_4]
    simp only [q87_5, q87_6, le, zn1_0, if_true, if_false, ↓reduceIte, Option.bind_some, Option.toList_some, Option.toList_none, List.cons_append, List.nil_append, zB_go, zB_end, zB_no, zokv_i, zokv_r, zokv_n, eq_self]
    rfl
  | succ m ih =>
    intro i p v L h hi hp s
    have le : ¬ nI 4 ≤ nI i := nI_ge (by omega) (by decide)
    unfold zdg
    by_cases q : p < T ∧ 48 ≤ tp p ∧ tp p ≤ 57
    · rw [if_pos q]
      have nx := fun d => c85_b d s.1 s.2.1 q.1 hT
      have wi := zwi_d (ht p (by omega))
      rw [if_pos q.2] at wi
      obtain ⟨s2, f2⟩ := zCs_at (q := p + 1) s
      obtain ⟨h', i', a, b, c⟩ := ih (i + 1) (p + 1) (v * nI 10 + nI (tp p) - nI 48) L _ (by omega) (by omega) s2
      refine ⟨h', i', ?_, b, zCfr_trans f2 c⟩
      rw [← a, q87_4]
      simp only [q87_5, q87_6, q87_9, q87_10, q87_13, q87_15, q87_17, q87_20, q87_23, q87_24, q87_26, q87_27, q87_28, q87_31, q87_32, q87_34, q87_35, q87_36, q87_37i, q87_37r, q87_38, q87_41, q87_42, q87_43, q87_46, q87_49, c0, nx, wi, gf_R3, pf_R3, s.1.2.2.1, le, rc_R, nI_add, zn1_0, if_true, if_false, ↓reduceIte, Option.bind_some, Option.toList_some, Option.toList_none, List.cons_append, List.nil_append, zB_go, zB_end, zB_no, zokv_i, zokv_r, zokv_n, eq_self]
    · rw [if_neg q]
      refine ⟨h, i, ?_, s, zCfr_refl h⟩
      rw [q87_4]
      by_cases q1 : p < T
      · have nx := fun d => c85_b d s.1 s.2.1 q1 hT
        have wi := zwi_d (ht p (by omega))
        rw [if_neg (fun w => q ⟨q1, w⟩)] at wi
        simp only [q87_5, q87_6, q87_9, q87_10, q87_13, q87_15, q87_17, q87_20, c0, nx, wi, le, rc_R, zn1_0, if_true, if_false, ↓reduceIte, Option.bind_some, Option.toList_some, Option.toList_none, List.cons_append, List.nil_append, zB_go, zB_end, zB_no, zokv_i, zokv_r, zokv_n, eq_self]
      · have nx := fun d => c85_e d s.1 (show T ≤ p by omega) (by omega)
        simp only [q87_5, q87_6, q87_9, q87_10, q87_13, q87_15, q87_17, q87_20, c0, nx, zwi_dm, le, rc_R, zn1_0, if_true, if_false, ↓reduceIte, Option.bind_some, Option.toList_some, Option.toList_none, List.cons_append, List.nil_append, zB_go, zB_end, zB_no, zokv_i, zokv_r, zokv_n, eq_self]
theorem w145 (hT : T ≤ 60) (ht : ∀ i, i < 60 → tp i < 256) {c : Int32} {o : Nat} : ∀ (m i p : Nat) (v : Int32) (L : List (Int32 × Int32)) (g : zH), i + m = 4 → p ≤ T → zMs tp T u p o L g → ∃ g' i', zXf zT znl (d + 1) 145 46 [.ref 91, .int c, .int v, .int (nI i)] [] g = zXf zT znl (d + 1) 145 94 [.ref 91, .int c, .int (zdg tp T m p v).1, .int (nI i')] [] g' ∧ zMs tp T u (zdg tp T m p v).2 o L g' ∧ zMfr g g' := by
  intro m
  induction m with
  | zero =>
    intro i p v L g hi hp s
    have le : nI 4 ≤ nI i := by rw [show i = 4 by omega]; exact Int32.le_refl _
    refine ⟨g, i, ?_, s, zMfr_refl g⟩
    rw [q145_46]
    simp only [q145_47, q145_48, le, zn1_0, if_true, if_false, ↓reduceIte, Option.bind_some, Option.toList_some, Option.toList_none, List.cons_append, List.nil_append, zB_go, zB_end, zB_no, zokv_i, zokv_r, zokv_n, eq_self]
    rfl
  | succ m ih =>
    intro i p v L g hi hp s
    have le : ¬ nI 4 ≤ nI i := nI_ge (by omega) (by decide)
    unfold zdg
    by_cases q : p < T ∧ 48 ≤ tp p ∧ tp p ≤ 57
    · rw [if_pos q]
      have nx := fun d => c139_b d s q.1 hT
      have wi := zwi_d (ht p (by omega))
      rw [if_pos q.2] at wi
      obtain ⟨s2, f2⟩ := zMs_at (q := p + 1) s
      obtain ⟨g', i', a, b, c'⟩ := ih (i + 1) (p + 1) (v * nI 10 + nI (tp p) - nI 48) L _ (by omega) (by omega) s2
      refine ⟨g', i', ?_, b, zMfr_trans f2 c'⟩
      rw [← a, q145_46]
      simp only [q145_47, q145_48, q145_51, q145_52, q145_55, q145_57, q145_59, q145_62, q145_65, q145_67, q145_68, q145_69, q145_70, q145_73, q145_74, q145_76, q145_77, q145_78, q145_79i, q145_79r, q145_80, q145_83, q145_84, q145_85, q145_88, q145_91, c107, nx, wi, gf_M5, pf_M5, s.1, le, rc_M, nI_add, Int32.mul_comm (nI 10) v, zn1_0, if_true, if_false, ↓reduceIte, Option.bind_some, Option.toList_some, Option.toList_none, List.cons_append, List.nil_append, zB_go, zB_end, zB_no, zokv_i, zokv_r, zokv_n, eq_self]
    · rw [if_neg q]
      refine ⟨g, i, ?_, s, zMfr_refl g⟩
      rw [q145_46]
      by_cases q1 : p < T
      · have nx := fun d => c139_b d s q1 hT
        have wi := zwi_d (ht p (by omega))
        rw [if_neg (fun w => q ⟨q1, w⟩)] at wi
        simp only [q145_47, q145_48, q145_51, q145_52, q145_55, q145_57, q145_59, q145_62, c107, nx, wi, le, rc_M, zn1_0, if_true, if_false, ↓reduceIte, Option.bind_some, Option.toList_some, Option.toList_none, List.cons_append, List.nil_append, zB_go, zB_end, zB_no, zokv_i, zokv_r, zokv_n, eq_self]
      · have nx := fun d => c139_e d s (show T ≤ p by omega) (by omega)
        simp only [q145_47, q145_48, q145_51, q145_52, q145_55, q145_57, q145_59, q145_62, c107, nx, zwi_dm, le, rc_M, zn1_0, if_true, if_false, ↓reduceIte, Option.bind_some, Option.toList_some, Option.toList_none, List.cons_append, List.nil_append, zB_go, zB_end, zB_no, zokv_i, zokv_r, zokv_n, eq_self]
/-- behind a fault nothing is read -/
theorem f90 {q o : Nat} (hq : q < 1000) (s : zFs T u q h) : zCf zT znl (d + 9) 90 [.ref 73, .int (nI o)] h = some (none, h) := by
  have nx := fun d => c85_f d hq s.2.2.1
  have n86 := fun d (r : Nat) => c86_n d (s := r) nx
  have n1 : ¬ (-1 : Int32) = nI 33 := by decide
  have n2 : ¬ (-1 : Int32) = nI 40 := by decide
  simp only [e90, q90_0, q90_1, q90_4, q90_5, q90_6, q90_8, q90_10, q90_13, q90_23, q90_24, q90_25, q90_28, q90_31, q90_65, q90_66, q90_68, q90_106, q90_107, q90_109, q90_164, q90_165, q90_168, c0, nx, zwi_dm, gf_R5, n86, n1, n2, c88_f _ hq s.2.2.1, rc_R, zn1_0, if_true, if_false, ↓reduceIte, Option.bind_some, Option.toList_some, Option.toList_none, List.cons_append, List.nil_append, zB_go, zB_end, zB_no, zokv_i, zokv_r, zokv_n, eq_self]
theorem f89_5 {q o : Nat} (hq : q < 1000) (s : zFs T u q h) : zCf zT znl (d + 10) 89 [.ref 73, .int (nI 5), .int (nI o)] h = some (none, h) := by
  have c := f90 d (o := o) hq s
  have n1 : ¬ nI 5 < nI 5 := by decide
  simp only [e89, q89_0, q89_1, q89_2, q89_5, q89_6, q89_7, q89_10, n1, c, rc_R, zn1_0, if_true, if_false, ↓reduceIte, Option.bind_some, Option.toList_some, Option.toList_none, List.cons_append, List.nil_append, zB_go, zB_end, zB_no, zokv_i, zokv_r, zokv_n, eq_self]
theorem f89 {q o D l : Nat} (hl : l < 5) (hq : q < 1000) (s : zFs T u q h) (W : zCf zT znl (D + 8) 89 [.ref 73, .int (nI (l + 1)), .int (nI o)] h = some (none, h)) : zCf zT znl (D + 9) 89 [.ref 73, .int (nI l), .int (nI o)] h = some (none, h) := by
  have nx := fun d => c85_f d hq s.2.2.1
  have n86 := fun d (r : Nat) => c86_n d (s := r) nx
  have lt : nI l < nI 5 := nI_lt hl (by decide)
  have s4 := fun d => c84 d hl h
  by_cases l2 : l = 2
  · subst l2
    have n1 : ¬ nI 1 ≤ nI 0 := by decide
    simp only [e89, q89_0, q89_1, q89_2, q89_11, q89_12, q89_13, q89_14, q89_15, q89_16, q89_19, q89_20, q89_21, q89_24, q89_25, q89_30, q89_31, q89_32, q89_34, q89_36, q89_37, q89_40, q89_41, q89_42, q89_45, q89_48, q89_91, lt, nI_add, W, n1, s4, n86, rc_R, zn1_0, if_true, if_false, ↓reduceIte, Option.bind_some, Option.toList_some, Option.toList_none, List.cons_append, List.nil_append, zB_go, zB_end, zB_no, zokv_i, zokv_r, zokv_n, eq_self]
  · have n1 : ¬ nI l = nI 2 := nI_ne l2 (by omega) (by decide)
    have n2 : ¬ nI 60 ≤ nI 0 := by decide
    simp only [e89, q89_0, q89_1, q89_2, q89_11, q89_12, q89_13, q89_14, q89_15, q89_16, q89_19, q89_20, q89_21, q89_28, q89_30, q89_31, q89_32, q89_34, q89_36, q89_37, q89_40, q89_41, q89_42, q89_45, q89_48, q89_91, lt, nI_add, W, n1, n2, s4, n86, rc_R, zn1_0, if_true, if_false, ↓reduceIte, Option.bind_some, Option.toList_some, Option.toList_none, List.cons_append, List.nil_append, zB_go, zB_end, zB_no, zokv_i, zokv_r, zokv_n, eq_self]
end O93
