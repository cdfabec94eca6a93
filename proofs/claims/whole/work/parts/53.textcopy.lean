/-! ===== a Text copied ===== -/
section TC
variable (d : Nat)
theorem c80 {t u : Nat} {h : zH} {ix : Int32 → Nat} {T : List (Int32 × Int32)} (ht : zTx t) (hu : zTx u) (htu : t + 4 ≤ u ∨ u + 4 ≤ t) (r : zRT h u ix T) : ∃ h', zCf zT znl (d + 1) 80 [.ref t, .ref u] h = some (none, h') ∧ zRT h' t ix T ∧ ∀ a, ¬ (t ≤ a ∧ a < t + 3) → h' a = h a := by
  obtain ⟨r4, r3, rl, rj⟩ := r
  have k1 : ∀ x, zcp h (u + 1) 0 (t + 1) 0 x u = h u := fun x => zcp_ne (by omega)
  have k2 : ∀ x y, zcp (zcp h (u + 1) 0 (t + 1) 0 x) (u + 2) 0 (t + 2) 0 y u = h u := fun x y => by rw [zcp_ne (by omega), k1]
  have k3 : ∀ x y v, zup (zcp (zcp h (u + 1) 0 (t + 1) 0 x) (u + 2) 0 (t + 2) 0 y) t 3 v u = h u := fun x y v => by rw [zup_row_ne (by omega), k2]
  have h01 : h u 4 = nI 0 ∨ h u 4 = nI 1 := by
    rw [r4]; split
    · exact Or.inl rfl
    · exact Or.inr rfl
  refine ⟨zup (zup (zcp (zcp h (u + 1) 0 (t + 1) 0 T.length) (u + 2) 0 (t + 2) 0 T.length) t 3 (nI T.length)) t 4 (h u 4), ?_, ⟨?_, ?_, rl, fun j q hj => ?_⟩, fun a ha => ?_⟩
  · simp only [e80, q80_0, q80_1, q80_4, q80_5, q80_6, q80_9, q80_10, q80_11, q80_14, q80_17, q80_18, q80_21, q80_22, q80_23, q80_26, q80_27, q80_28, q80_31, q80_34, q80_35, q80_36, q80_39, q80_42, q80_43, q80_44, q80_47, q80_50, gf_T0 ht, gf_T1 ht, gf_T0 hu, gf_T1 hu, gf_T3 hu, gf_T4 hu, pf_T3 ht, pf_T4 ht h01, k1, k2, k3, r3, cpy (zar_T1 hu) (zar_T1 ht) (show 0 + T.length ≤ 60 by omega) (show 0 + T.length ≤ 60 by omega) (by decide) (by decide), cpy (zar_T2 hu) (zar_T2 ht) (show 0 + T.length ≤ 60 by omega) (show 0 + T.length ≤ 60 by omega) (by decide) (by decide), Option.bind_some, Option.toList_some, Option.toList_none, List.cons_append, List.nil_append, zB_go, zB_end, zB_no, zokv_i, zokv_r, zokv_n, eq_self]
  · rw [zup_at]; exact r4
  · rw [zup_o (by decide), zup_at]
  · have hl : j < T.length := (List.getElem?_eq_some_iff.mp hj).1
    have e1 : zup (zup (zcp (zcp h (u + 1) 0 (t + 1) 0 T.length) (u + 2) 0 (t + 2) 0 T.length) t 3 (nI T.length)) t 4 (h u 4) (t + 1) j = h (u + 1) j := by
      rw [zup_ne (by omega), zup_ne (by omega), zcp_ne (by omega), zcp_at (by omega) (by omega)]
      congr 1; omega
    have e2 : zup (zup (zcp (zcp h (u + 1) 0 (t + 1) 0 T.length) (u + 2) 0 (t + 2) 0 T.length) t 3 (nI T.length)) t 4 (h u 4) (t + 2) j = h (u + 2) j := by
      rw [zup_ne (by omega), zup_ne (by omega), zcp_at (by omega) (by omega), zcp_ne (by omega)]
      congr 1; omega
    rw [e1, e2]
    exact rj j q hj
  · rw [zup_row_ne (by omega), zup_row_ne (by omega), zcp_ne (by omega), zcp_ne (by omega)]
end TC
