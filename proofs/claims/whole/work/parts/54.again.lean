/-! ===== a World's beginning again: numbers and places ===== -/
section RS
variable (d : Nat)
theorem w49 {a b : Nat} (ha : zW a) (hb : zW b) (hab : a + 24 ≤ b ∨ b + 24 ≤ a) : ∀ (n j : Nat) (h : zH), j + n = 8 → ∃ h', zXf zT znl d 49 34 [.ref a, .ref b, .int (nI j)] [] h = some (none, h') ∧ (∀ k, j ≤ k → k < 8 → ∀ i, i < 8 → h' (a + 4 + k) i = h (b + 4 + k) i) ∧ ∀ x, ¬ (a + 4 + j ≤ x ∧ x < a + 12) → h' x = h x := by
  intro n
  induction n with
  | zero =>
    intro j h hj
    have c : nI 8 ≤ nI j := by rw [show 8 = j by omega]; exact Int32.le_refl _
    refine ⟨h, ?_, fun k h1 h2 => absurd h1 (by omega), fun _ _ => rfl⟩
    rw [q49_34]
    simp only [q49_35, q49_37, q49_65, c, if_true, Option.bind_some, Option.toList_some, Option.toList_none, List.cons_append, List.nil_append, zB_go, zB_end, zB_no, zokv_i, zokv_r, zokv_n, eq_self]
  | succ n ih =>
    intro j h hj
    have hj8 : j < 8 := by omega
    have c : ¬ (nI 8 ≤ nI j) := nI_ge (by omega) (by decide)
    obtain ⟨h', f1, f2, f3⟩ := ih (j + 1) (zcp h (b + 4 + j) 0 (a + 4 + j) 0 8) (by omega)
    refine ⟨h', ?_, fun k k1 k2 i hi => ?_, fun x hx => ?_⟩
    · rw [← f1, q49_34]
      simp only [q49_35, q49_37, q49_40, q49_41, q49_44, q49_45, q49_46, q49_47, q49_48, q49_51, q49_52, q49_53, q49_54, q49_56, q49_59, q49_62, c, gf_W2 ha, gf_W2 hb, aal_W ha hj8, aal_W hb hj8, cpy (zar_row hb hj8) (zar_row ha hj8) (show 0 + 8 ≤ 8 by decide) (show 0 + 8 ≤ 8 by decide) (by decide) (by decide), nI_add, if_false, Option.bind_some, Option.toList_some, Option.toList_none, List.cons_append, List.nil_append, zB_go, zB_end, zB_no, zokv_i, zokv_r, zokv_n, eq_self]
    · by_cases z : k = j
      · subst z
        rw [f3 _ (by omega), zcp_at (by omega) (by omega)]
        congr 1; omega
      · rw [f2 k (by omega) k2 i hi, zcp_ne (by omega)]
    · rw [f3 x (by omega), zcp_ne (by omega)]
end RS
