/-! ===== a row carried ===== -/
def zSR (a : Nat) : Prop := a = 92 ∨ a = 93 ∨ a = 94
theorem ald_s {a i nx : Nat} {lo : zL} {st : List Value} {h : zH} (ha : zSR a) (hi : i < 488) : oIald nx lo (.int (nI i) :: .ref a :: st) h = zgo nx lo (.int (h a i) :: st) h := by
  rcases ha with rfl | rfl | rfl
  · exact ald_n92 hi
  · exact ald_n93 hi
  · exact ald_n94 hi
theorem ast_s {a i nx : Nat} {x : Int32} {lo : zL} {st : List Value} {h : zH} (ha : zSR a) (hi : i < 488) : oIast nx lo (.int x :: .int (nI i) :: .ref a :: st) h = zgo nx lo st (zup h a i x) := by
  rcases ha with rfl | rfl | rfl
  · exact ast_n92 hi
  · exact ast_n93 hi
  · exact ast_n94 hi
section CA
variable (d : Nat)
theorem w109 {a b : Nat} (ha : zSR a) (hb : zSR b) (hab : a ≠ b) : ∀ (n j : Nat) (h : zH), j + n = 488 → ∃ h', zXf zT znl d 109 2 [.ref a, .ref b, .int (nI j)] [] h = some (none, h') ∧ (∀ i, h' b i = if j ≤ i ∧ i < 488 then h a i else h b i) ∧ ∀ x, x ≠ b → h' x = h x := by
  intro n
  induction n with
  | zero =>
    intro j h hj
    have c : nI 488 ≤ nI j := by rw [show 488 = j by omega]; exact Int32.le_refl _
    refine ⟨h, ?_, fun i => by rw [if_neg (by omega)], fun _ _ => rfl⟩
    rw [q109_2]
    simp only [q109_3, q109_6, q109_21, c, if_true, Option.bind_some, Option.toList_some, Option.toList_none, List.cons_append, List.nil_append, zB_go, zB_end, zB_no, zokv_i, zokv_r, zokv_n, eq_self]
  | succ n ih =>
    intro j h hj
    have c : ¬ (nI 488 ≤ nI j) := nI_ge (by omega) (by decide)
    obtain ⟨h', f1, f2, f3⟩ := ih (j + 1) (zup h b j (h a j)) (by omega)
    refine ⟨h', ?_, fun i => ?_, fun x hx => by rw [f3 x hx, zup_row_ne hx]⟩
    · rw [← f1, q109_2]
      simp only [q109_0, q109_1, q109_3, q109_6, q109_9, q109_10, q109_11, q109_12, q109_13, q109_14, q109_15, q109_18, c, ald_s ha (show j < 488 by omega), ast_s hb (show j < 488 by omega), nI_add, if_false, Option.bind_some, Option.toList_some, Option.toList_none, List.cons_append, List.nil_append, zB_go, zB_end, zB_no, zokv_i, zokv_r, zokv_n, eq_self]
    · rw [f2 i, zup_row_ne hab]
      by_cases y : i = j
      · subst y
        rw [if_neg (by omega), if_pos ⟨Nat.le_refl _, by omega⟩, zup_at]
      · rw [zup_o y]
        by_cases z : j + 1 ≤ i ∧ i < 488
        · rw [if_pos z, if_pos ⟨by omega, z.2⟩]
        · rw [if_neg z, if_neg (by omega)]
theorem c109 {a b : Nat} {h : zH} (ha : zSR a) (hb : zSR b) (hab : a ≠ b) : ∃ h', zCf zT znl (d + 1) 109 [.ref a, .ref b] h = some (none, h') ∧ (∀ i, i < 488 → h' b i = h a i) ∧ ∀ x, x ≠ b → h' x = h x := by
  obtain ⟨h', f1, f2, f3⟩ := w109 d ha hb hab 488 0 h rfl
  refine ⟨h', ?_, fun i hi => by rw [f2 i, if_pos ⟨Nat.zero_le _, hi⟩], f3⟩
  rw [← f1]
  simp only [e109, q109_0, q109_1, Option.bind_some, Option.toList_some, Option.toList_none, List.cons_append, List.nil_append, zB_go, zB_end, zB_no, zokv_i, zokv_r, zokv_n, eq_self]
end CA
