/-! ===== a World made alike another ===== -/
section BC
variable (d : Nat)
theorem c50 {a b : Nat} {s : Nat → Int32} {h : zH} (ha : zW a) (hb : zW b) (hab : a + 24 ≤ b ∨ b + 24 ≤ a) (r : zRW b s h) : ∃ h', zCf zT znl (d + 2) 50 [.ref a, .ref b] h = some (none, h') ∧ zRW a s h' ∧ ∀ x, ¬ (a ≤ x ∧ x < a + 24) → h' x = h x := by
  obtain ⟨r1, r2, r3, ⟨b1, b2, b3, b4, b5, b6⟩, r5, r6, r7, r8⟩ := r
  obtain ⟨h2, e2⟩ : ∃ h2, zcp (zcp h (b + 1) 0 (a + 1) 0 80) (b + 2) 0 (a + 2) 0 3 = h2 := ⟨_, rfl⟩
  have f2 : ∀ x, x ≠ a + 1 → x ≠ a + 2 → h2 x = h x := fun x p q => by rw [← e2, zcp_ne q, zcp_ne p]
  obtain ⟨h3, g1, g2, g3⟩ := c80 d (h := h2) (zTx_W12 ha) (zTx_W12 hb) (by omega) (zRT_row (f2 _ (by omega) (by omega)) (f2 _ (by omega) (by omega)) (f2 _ (by omega) (by omega)) r7)
  have f3 : ∀ x, x ≠ a + 1 → x ≠ a + 2 → ¬ (a + 12 ≤ x ∧ x < a + 15) → h3 x = h x := fun x p q z => by rw [g3 x (by omega), f2 x p q]
  obtain ⟨h4, k1, k2, k3⟩ := c80 d (h := h3) (zTx_W16 ha) (zTx_W16 hb) (by omega) (zRT_row (f3 _ (by omega) (by omega) (by omega)) (f3 _ (by omega) (by omega) (by omega)) (f3 _ (by omega) (by omega) (by omega)) r8)
  have f4 : ∀ x, x ≠ a + 1 → x ≠ a + 2 → ¬ (a + 12 ≤ x ∧ x < a + 15) → ¬ (a + 16 ≤ x ∧ x < a + 19) → h4 x = h x := fun x p q z y => by rw [k3 x (by omega), f3 x p q z]
  obtain ⟨h8, e8⟩ : ∃ h8, zup (zcp (zup (zcp h4 (b + 22) 0 (a + 22) 0 60) a 13 (h4 b 13)) (b + 23) 0 (a + 23) 0 24) a 14 (h4 b 14) = h8 := ⟨_, rfl⟩
  have f8 : ∀ x, x ≠ a → x ≠ a + 22 → x ≠ a + 23 → h8 x = h4 x := fun x p q z => by rw [← e8, zup_row_ne p, zcp_ne z, zup_row_ne p, zcp_ne q]
  obtain ⟨h9, m1, ⟨m9, m10, m11, m12⟩, m3, m4, m5⟩ := c49 d (h := h8) ha hb hab
  have n1 : ∀ (g : zH) x y n, zcp g x 0 (a + 22) y n b = g b := fun g x y n => zcp_ne (by omega)
  have n2 : ∀ (g : zH) x y n, zcp g x 0 (a + 23) y n b = g b := fun g x y n => zcp_ne (by omega)
  have n3 : ∀ (g : zH) j v, zup g a j v b = g b := fun g j v => zup_row_ne (by omega)
  have fb : ∀ x, b ≤ x → x < b + 24 → h4 x = h x := fun x p q => f4 x (by omega) (by omega) (by omega) (by omega)
  have fb8 : ∀ x, b ≤ x → x < b + 24 → h8 x = h x := fun x p q => by rw [f8 x (by omega) (by omega) (by omega), fb x p q]
  refine ⟨h9, ?_, ⟨fun c hc => ?_, fun j hj => ?_, fun k hk j hj => ?_, ⟨?_, ?_, ?_, ?_, ?_, ?_⟩, fun i hi => ?_, fun i hi => ?_, ?_, ?_⟩, fun x hx => ?_⟩
  · simp only [e50, q50_0, q50_1, q50_4, q50_5, q50_6, q50_9, q50_10, q50_12, q50_15, q50_16, q50_19, q50_20, q50_21, q50_24, q50_25, q50_26, q50_29, q50_30, q50_33, q50_34, q50_37, q50_38, q50_41, q50_44, q50_45, q50_48, q50_49, q50_52, q50_55, q50_56, q50_59, q50_60, q50_61, q50_64, q50_65, q50_67, q50_70, q50_71, q50_72, q50_75, q50_78, q50_79, q50_82, q50_83, q50_84, q50_87, q50_88, q50_90, q50_93, q50_94, q50_95, q50_98, q50_101, q50_102, q50_103, q50_106, gf_W0 ha, gf_W0 hb, gf_W1 ha, gf_W1 hb, gf_W3 ha, gf_W3 hb, gf_W4 ha, gf_W4 hb, gf_W7 ha, gf_W7 hb, gf_W8 ha, gf_W8 hb, gf_W13 hb, gf_W14 hb, pf_W13 ha, pf_W14 ha, aln_W2 ha, cpy (zar_W1 hb) (zar_W1 ha) (show 0 + 80 ≤ 80 by decide) (show 0 + 80 ≤ 80 by decide) (by decide) (by decide), cpy (zar_W2 hb) (zar_W2 ha) (show 0 + 3 ≤ 3 by decide) (show 0 + 3 ≤ 3 by decide) (by decide) (by decide), cpy (zar_W22 hb) (zar_W22 ha) (show 0 + 60 ≤ 60 by decide) (show 0 + 60 ≤ 60 by decide) (by decide) (by decide), cpy (zar_W23 hb) (zar_W23 ha) (show 0 + 24 ≤ 24 by decide) (show 0 + 24 ≤ 24 by decide) (by decide) (by decide), rc_T (zTx_W12 ha), rc_T (zTx_W16 ha), rc_W ha, e2, g1, k1, n1, n2, n3, e8, m1, Option.bind_some, Option.toList_some, Option.toList_none, List.cons_append, List.nil_append, zB_go, zB_end, zB_no, zokv_i, zokv_r, zokv_n, eq_self]
  · rw [m5 _ (by omega) (by omega), f8 _ (by omega) (by omega) (by omega), k3 _ (by omega), g3 _ (by omega), ← e2, zcp_ne (by omega), zcp_at (by omega) (by omega), Nat.sub_zero, Nat.zero_add]
    exact r1 c hc
  · rw [m5 _ (by omega) (by omega), f8 _ (by omega) (by omega) (by omega), k3 _ (by omega), g3 _ (by omega), ← e2, zcp_at (by omega) (by omega), zcp_ne (by omega), Nat.sub_zero, Nat.zero_add]
    exact r2 j hj
  · rw [m4 k hk j hj, fb8 _ (by omega) (by omega)]
    exact r3 k hk j hj
  · rw [m9, fb8 _ (by omega) (by omega)]; exact b1
  · rw [m10, fb8 _ (by omega) (by omega)]; exact b2
  · rw [m11, fb8 _ (by omega) (by omega)]; exact b3
  · rw [m12, fb8 _ (by omega) (by omega)]; exact b4
  · rw [m3 13 (by decide) (by decide) (by decide) (by decide), ← e8, zup_o (by decide), zcp_ne (by omega), zup_at, fb _ (by omega) (by omega)]; exact b5
  · rw [m3 14 (by decide) (by decide) (by decide) (by decide), ← e8, zup_at, fb _ (by omega) (by omega)]; exact b6
  · rw [m5 _ (by omega) (by omega), ← e8, zup_row_ne (by omega), zcp_ne (by omega), zup_row_ne (by omega), zcp_at (by omega) (by omega), Nat.sub_zero, Nat.zero_add, fb _ (by omega) (by omega)]
    exact r5 i hi
  · rw [m5 _ (by omega) (by omega), ← e8, zup_row_ne (by omega), zcp_at (by omega) (by omega), Nat.sub_zero, Nat.zero_add, zup_row_ne (by omega), zcp_ne (by omega), fb _ (by omega) (by omega)]
    exact r6 i hi
  · have z : ∀ x, a + 12 ≤ x → x < a + 15 → h9 x = h3 x := fun x p q => by rw [m5 _ (by omega) (by omega), f8 _ (by omega) (by omega) (by omega), k3 _ (by omega)]
    exact zRT_row (z _ (by omega) (by omega)) (z _ (by omega) (by omega)) (z _ (by omega) (by omega)) g2
  · have z : ∀ x, a + 16 ≤ x → x < a + 19 → h9 x = h4 x := fun x p q => by rw [m5 _ (by omega) (by omega), f8 _ (by omega) (by omega) (by omega)]
    exact zRT_row (z _ (by omega) (by omega)) (z _ (by omega) (by omega)) (z _ (by omega) (by omega)) k2
  · rw [m5 _ (by omega) (by omega), f8 _ (by omega) (by omega) (by omega), f4 _ (by omega) (by omega) (by omega) (by omega)]
end BC
