/-! ===== a World's beginning again: numbers and places ===== -/
section RS
variable (d : Nat)
theorem w49 {a b : Nat} (ha : zW a) (hb : zW b) (hab : a + 24 ≤ b ∨ b + 24 ≤ a) : ∀ (n j : Nat) (h : zH), j + n = 8 → ∃ h', zXf zT znl d 49 34 [.ref a, .ref b, .int (nI j)] [] h = some (none, h') ∧ (∀ k, j ≤ k → k < 8 → ∀ i, i < 8 → h' (a + 4 + k) i = h (b + 4 + k) i) ∧ ∀ x, ¬ (a + 4 + j ≤ x ∧ x < a + 12) → h' x = h x := by
  intro n
  induction n with
  | zero =>
    intro j h hj
    have c : nI 8 ≤ nI j := by rw [show 8 = j by omega]; exact Int32.le_refl _
    refine ⟨h, ?_, fun k h1 h2 => absurd h1 (by omega), fun _ _ => rfl⟩
    rw [q49_34]
    simp only [q49_35, q49_37, q49_65, c, if_true, Option.bind_some, Option.toList_some, Option.toList_none, List.cons_append, List.nil_append, zB_go, zB_end, zB_no, zokv_i, zokv_r, zokv_n, eq_self]
  | succ n ih =>
    intro j h hj
    have hj8 : j < 8 := by omega
    have c : ¬ (nI 8 ≤ nI j) := nI_ge (by omega) (by decide)
    obtain ⟨h', f1, f2, f3⟩ := ih (j + 1) (zcp h (b + 4 + j) 0 (a + 4 + j) 0 8) (by omega)
    refine ⟨h', ?_, fun k k1 k2 i hi => ?_, fun x hx => ?_⟩
    · rw [← f1, q49_34]
      simp only [q49_35, q49_37, q49_40, q49_41, q49_44, q49_45, q49_46, q49_47, q49_48, q49_51, q49_52, q49_53, q49_54, q49_56, q49_59, q49_62, c, gf_W2 ha, gf_W2 hb, aal_W ha hj8, aal_W hb hj8, cpy (zar_row hb hj8) (zar_row ha hj8) (show 0 + 8 ≤ 8 by decide) (show 0 + 8 ≤ 8 by decide) (by decide) (by decide), nI_add, if_false, Option.bind_some, Option.toList_some, Option.toList_none, List.cons_append, List.nil_append, zB_go, zB_end, zB_no, zokv_i, zokv_r, zokv_n, eq_self]
    · by_cases z : k = j
      · subst z
        rw [f3 _ (by omega), zcp_at (by omega) (by omega)]
        congr 1; omega
      · rw [f2 k (by omega) k2 i hi, zcp_ne (by omega)]
    · rw [f3 x (by omega), zcp_ne (by omega)]
theorem c49 {a b : Nat} {h : zH} (ha : zW a) (hb : zW b) (hab : a + 24 ≤ b ∨ b + 24 ≤ a) : ∃ h', zCf zT znl (d + 1) 49 [.ref a, .ref b] h = some (none, h') ∧ (h' a 9 = h b 9 ∧ h' a 10 = h b 10 ∧ h' a 11 = h b 11 ∧ h' a 12 = h b 12) ∧ (∀ i, i ≠ 9 → i ≠ 10 → i ≠ 11 → i ≠ 12 → h' a i = h a i) ∧ (∀ k, k < 8 → ∀ i, i < 8 → h' (a + 4 + k) i = h (b + 4 + k) i) ∧ ∀ x, x ≠ a → ¬ (a + 4 ≤ x ∧ x < a + 12) → h' x = h x := by
  obtain ⟨h', f1, f2, f3⟩ := w49 d ha hb hab 8 0 (zup (zup (zup (zup h a 9 (h b 9)) a 10 (h b 10)) a 11 (h b 11)) a 12 (h b 12)) rfl
  have r : ∀ x, x ≠ a → zup (zup (zup (zup h a 9 (h b 9)) a 10 (h b 10)) a 11 (h b 11)) a 12 (h b 12) x = h x := fun x hx => by rw [zup_row_ne hx, zup_row_ne hx, zup_row_ne hx, zup_row_ne hx]
  have fa := f3 a (by omega)
  have kb : ∀ i x, zup h a i x b = h b := fun i x => zup_row_ne (by omega)
  have kb2 : ∀ (g : zH) i x, zup g a i x b = g b := fun g i x => zup_row_ne (by omega)
  refine ⟨h', ?_, ⟨?_, ?_, ?_, ?_⟩, fun i i1 i2 i3 i4 => ?_, fun k hk i hi => ?_, fun x hx hx2 => ?_⟩
  · rw [← f1]
    simp only [e49, q49_0, q49_1, q49_2, q49_5, q49_8, q49_9, q49_10, q49_13, q49_16, q49_17, q49_18, q49_21, q49_24, q49_25, q49_26, q49_29, q49_32, q49_33, gf_W9 hb, gf_W10 hb, gf_W11 hb, gf_W12 hb, pf_W9 ha, pf_W10 ha, pf_W11 ha, pf_W12 ha, kb2, Option.bind_some, Option.toList_some, Option.toList_none, List.cons_append, List.nil_append, zB_go, zB_end, zB_no, zokv_i, zokv_r, zokv_n, eq_self]
  · rw [fa, zup_o (by decide), zup_o (by decide), zup_o (by decide), zup_at]
  · rw [fa, zup_o (by decide), zup_o (by decide), zup_at]
  · rw [fa, zup_o (by decide), zup_at]
  · rw [fa, zup_at]
  · rw [fa, zup_o i4, zup_o i3, zup_o i2, zup_o i1]
  · rw [f2 k (Nat.zero_le _) hk i hi, r _ (by omega)]
  · rw [f3 x (by omega), r x hx]
end RS
