/-! ===== told and costs: both sides ===== -/
theorem zheld_eq {v lo hi : Int32} (hl : lo ≤ hi) : zheld v lo hi = zhl v lo hi := by
  unfold zheld zhl zmax zmin
  by_cases a : v < hi
  · rw [if_pos a]
    by_cases b : lo < v
    · rw [if_pos b, if_pos (Int32.le_of_lt b), if_pos (Int32.le_of_lt a)]
    · rw [if_neg b]
      by_cases e : lo ≤ v
      · rw [if_pos e, if_pos (Int32.le_of_lt a)]
        exact Int32.le_antisymm e (Int32.not_lt.mp b)
      · rw [if_neg e]
  · rw [if_neg a]
    have a' := Int32.not_lt.mp a
    by_cases b : lo < hi
    · rw [if_pos b, if_pos (Int32.le_trans hl a')]
      by_cases e : v ≤ hi
      · rw [if_pos e]; exact Int32.le_antisymm a' e
      · rw [if_neg e]
    · rw [if_neg b, if_pos (Int32.le_trans hl a')]
      have h2 : lo = hi := Int32.le_antisymm hl (Int32.not_lt.mp b)
      by_cases e : v ≤ hi
      · rw [if_pos e, h2]; exact Int32.le_antisymm a' e
      · rw [if_neg e, h2]
/-- the class's Text t is T -/
def zRT (h : zH) (t : Nat) (ix : Int32 → Nat) (T : List (Int32 × Int32)) : Prop := h t 4 = (if T = [] then nI 0 else nI 1) ∧ zct2 h t ix T
/-- the class's World w is the row s -/
def zRW (w : Nat) (s : Nat → Int32) (h : zH) : Prop :=
  (∀ c, c < 80 → h (w + 1) c = s (10 + c)) ∧ (∀ j, j < 3 → h (w + 2) j = s (6 + j)) ∧ (∀ k, k < 8 → ∀ j, j < 8 → h (w + 4 + k) j = s (90 + 8 * k + j)) ∧ (h w 9 = s 1 ∧ h w 10 = s 2 ∧ h w 11 = s 5 ∧ h w 12 = s 0 ∧ h w 13 = s 3 ∧ h w 14 = s 4) ∧ (∀ i, i < 60 → h (w + 22) i = s (404 + i)) ∧ (∀ i, i < 24 → h (w + 23) i = s (464 + i)) ∧ zRT h (w + 12) zix0 (ztx s 0) ∧ zRT h (w + 16) zix1 (ztx s 1)
theorem zr20 {w : Nat} (h : zH) (j : Nat) (x : Int32) {b : Nat} (e : b ≠ w + 20) : zup h (w + 20) j x b = h b := zup_row_ne e
theorem zhl_3 : ∀ x, x < 100 → zhl (nI x / nI 3) (nI 0) (nI 999) = nI x / nI 3 := by decide +kernel
section CE
variable (d : Nat) (h : zH)
theorem c129 {k : Nat} {lo : Int32} (hk : k < 8) (ht : zTI zok1 (h 92) 1) : ∃ h', zCf zT znl (d + 3) 129 [.ref 91, .int (nI k), .int lo] h = some (some (.int (zcost (h 92) k lo)), h') ∧ ∀ a, a ≠ 97 → a ≠ 98 → h' a = h a := by
  obtain ⟨n, hn, hs, hw⟩ := ht
  have t1 := fun d => c121 d h (u := 1) (by decide) hn hs
  by_cases z : n = 0
  · subst z
    refine ⟨h, ?_, fun _ _ _ => rfl⟩
    unfold zcost
    rw [if_pos ((ztx_nil hs hn).mpr rfl)]
    simp only [e129, q129_0, q129_1, q129_2, q129_5, q129_8, q129_9, q129_10, q129_11, q129_12, q129_15, q129_18, q129_19, q129_20, q129_23, q129_25, q129_26, q129_27, q129_28, q129_31, q129_33, q129_34, q129_35, q129_36, q129_39, q129_40, q129_41, q129_44, q129_46, q129_47, q129_48, q129_49, q129_52, q129_53, q129_54, q129_55, q129_58, q129_59, q129_62, q129_65, t1, rc_M, zb0', zn3, not_false_eq_true, c108, if_true, Option.bind_some, Option.toList_some, Option.toList_none, List.cons_append, List.nil_append, zB_go, zB_end, zB_no, zokv_i, zokv_r, zokv_n, eq_self]
    rfl
  · have hw := hw.resolve_left z
    have hq : (zup (zup (zup h 97 115 lo) 97 104 (h 92 (90 + 8 * k + 4))) 97 103 (h 92 (90 + 8 * k + 5))) 92 = h 92 := by simp only [zr97]
    obtain ⟨h', e1, e2⟩ := c123 d zok1_c (u := 1) (by decide) (zup (zup (zup h 97 115 lo) 97 104 (h 92 (90 + 8 * k + 4))) 97 103 (h 92 (90 + 8 * k + 5))) (T := ztx (h 92) 1) (by rw [hq]; exact ztx_rt hs hn) hw
    refine ⟨h', ?_, fun a a1 a2 => by rw [e2 a a2, zup_row_ne a1, zup_row_ne a1, zup_row_ne a1]⟩
    simp only [e129, q129_0, q129_1, q129_2, q129_5, q129_8, q129_9, q129_10, q129_11, q129_12, q129_15, q129_18, q129_19, q129_20, q129_23, q129_25, q129_26, q129_27, q129_28, q129_31, q129_33, q129_34, q129_35, q129_36, q129_39, q129_40, q129_41, q129_44, q129_46, q129_47, q129_48, q129_49, q129_52, q129_53, q129_54, q129_55, q129_58, q129_59, q129_62, q129_65, t1, rc_M, zn1_0, z, gf_M0, gf_M10, c112 _ _ hk (show 4 < 8 by decide), c112 _ _ hk (show 5 < 8 by decide), ast_n97 (show 115 < 128 by decide), ast_n97 (show 104 < 128 by decide), ast_n97 (show 103 < 128 by decide), zr97, e1, c108, if_true, if_false, Option.bind_some, Option.toList_some, Option.toList_none, List.cons_append, List.nil_append, zB_go, zB_end, zB_no, zokv_i, zokv_r, zokv_n, eq_self]
    unfold zcost
    rw [if_neg (fun y => z ((ztx_nil hs hn).mp y)), zrun_congr (nm' := znm1 (h 92) k lo) (ok := zok1) ?_ _ _ _ hw]
    · rfl
    · rintro v (rfl | rfl | rfl) <;> simp (decide := true) [zup, znm1, nI_clamp]
theorem c53 {w k : Nat} {s : Nat → Int32} {far : Int32} (hw : zW w) (hk : k < 8) (hR : zRW w s h) (ht : zTI zok0 s 0) (hf : far = zdis (s 1) (s (90 + 8 * k + 2))) : ∃ h', zCf zT znl (d + 3) 53 [.ref w, .ref (w + 4 + k), .int far] h = some (some (.int (zcalled s k)), h') ∧ ∀ a, a ≠ w + 20 → a ≠ w + 15 → h' a = h a := by
  obtain ⟨n, hn, hs, hT⟩ := ht
  obtain ⟨-, -, hp, ⟨-, r10, -⟩, -, -, ⟨x1, x2⟩, -⟩ := hR
  have p3 := hp k hk 3 (by decide)
  have p4 := hp k hk 4 (by decide)
  have p5 := hp k hk 5 (by decide)
  have n1 : w + 4 + k ≠ w + 20 := by omega
  have n2 : w ≠ w + 20 := by omega
  have n3 : w + 12 ≠ w + 20 := by omega
  by_cases z : n = 0
  · subst z
    have e0 := (ztx_nil hs hn).mpr rfl
    rw [if_pos e0] at x1
    refine ⟨h, ?_, fun _ _ _ => rfl⟩
    unfold zcalled
    rw [if_pos e0]
    simp only [e53, q53_0, q53_1, q53_4, q53_7, q53_10, q53_11, q53_12, q53_13, q53_14, q53_15, q53_16, q53_17, q53_18, q53_19, q53_22, q53_23, q53_24, q53_25, q53_26, q53_29, q53_30, q53_31, q53_32, q53_33, q53_34, q53_35, q53_38, q53_39, q53_40, q53_41, q53_42, q53_43, q53_44, q53_47, q53_48, q53_49, q53_50, q53_51, q53_52, q53_53, q53_56, q53_57, q53_58, q53_61, q53_62, q53_63, q53_66, q53_67, q53_70, q53_73, gf_W3 hw, gf_T4 (zTx_W12 hw), x1, ald_row hw hk (show 3 < 8 by decide), ald_row hw hk (show 4 < 8 by decide), p3, p4, if_true, Option.bind_some, Option.toList_some, Option.toList_none, List.cons_append, List.nil_append, zB_go, zB_end, zB_no, zokv_i, zokv_r, zokv_n, eq_self]
  · have hT := hT.resolve_left z
    have e0 : ¬ ztx s 0 = [] := fun y => z ((ztx_nil hs hn).mp y)
    rw [if_neg e0] at x1
    obtain ⟨h', e1, e2⟩ := c83 d (fun v _ => zix0_lt v) hw (zTx_W12 hw) (h := zup (zup (zup (zup (zup h (w + 20) 0 far) (w + 20) 1 (s (90 + 8 * k + 3))) (w + 20) 2 (s (90 + 8 * k + 4))) (w + 20) 3 (s (90 + 8 * k + 5))) (w + 20) 4 (s 2)) (T := ztx s 0) (ok := zok0) (ix := zix0) (by
      unfold zct2 at x2 ⊢
      rw [zr20 _ _ _ n3, zr20 _ _ _ n3, zr20 _ _ _ n3, zr20 _ _ _ n3, zr20 _ _ _ n3, zr20 (b := w + 12 + 1) _ _ _ (by omega), zr20 (b := w + 12 + 1) _ _ _ (by omega), zr20 (b := w + 12 + 1) _ _ _ (by omega), zr20 (b := w + 12 + 1) _ _ _ (by omega), zr20 (b := w + 12 + 1) _ _ _ (by omega), zr20 (b := w + 12 + 2) _ _ _ (by omega), zr20 (b := w + 12 + 2) _ _ _ (by omega), zr20 (b := w + 12 + 2) _ _ _ (by omega), zr20 (b := w + 12 + 2) _ _ _ (by omega), zr20 (b := w + 12 + 2) _ _ _ (by omega)]
      exact x2) hT
    refine ⟨h', ?_, fun a a1 a2 => by rw [e2 a a2, zup_row_ne a1, zup_row_ne a1, zup_row_ne a1, zup_row_ne a1, zup_row_ne a1]⟩
    simp only [e53, q53_0, q53_1, q53_4, q53_7, q53_10, q53_11, q53_12, q53_13, q53_14, q53_15, q53_16, q53_17, q53_18, q53_19, q53_22, q53_23, q53_24, q53_25, q53_26, q53_29, q53_30, q53_31, q53_32, q53_33, q53_34, q53_35, q53_38, q53_39, q53_40, q53_41, q53_42, q53_43, q53_44, q53_47, q53_48, q53_49, q53_50, q53_51, q53_52, q53_53, q53_56, q53_57, q53_58, q53_61, q53_62, q53_63, q53_66, q53_67, q53_70, q53_73, gf_W3 hw, gf_W5 hw, gf_W10 hw, gf_T4 (zTx_W12 hw), x1, zn1_0, ald_row hw hk (show 3 < 8 by decide), ald_row hw hk (show 4 < 8 by decide), ald_row hw hk (show 5 < 8 by decide), zr20 _ _ _ n1, zr20 _ _ _ n2, zr20 _ _ _ n3, p3, p4, p5, r10, ast_W20 hw (show 0 < 5 by decide), ast_W20 hw (show 1 < 5 by decide), ast_W20 hw (show 2 < 5 by decide), ast_W20 hw (show 3 < 5 by decide), ast_W20 hw (show 4 < 5 by decide), rc_T (zTx_W12 hw), e1, if_true, if_false, Option.bind_some, Option.toList_some, Option.toList_none, List.cons_append, List.nil_append, zB_go, zB_end, zB_no, zokv_i, zokv_r, zokv_n, eq_self]
    unfold zcalled
    rw [if_neg e0, zrun_congr (nm' := znm0 s k) (ok := zok0) ?_ _ _ _ hT]
    rintro v (rfl | rfl | rfl | rfl | rfl) <;> simp (decide := true) [zup, znm0, zix0, hf]
theorem c57 {w k x : Nat} {s : Nat → Int32} (hw : zW w) (hk : k < 8) (hx : x < 100) (hR : zRW w s h) (ht : zTI zok1 s 1) : ∃ h', zCf zT znl (d + 3) 57 [.ref w, .ref (w + 4 + k), .int (nI x)] h = some (some (.int (zcost s k (nI x))), h') ∧ ∀ a, a ≠ w + 20 → a ≠ w + 19 → h' a = h a := by
  obtain ⟨n, hn, hs, hT⟩ := ht
  obtain ⟨-, -, hp, -, -, -, -, ⟨x1, x2⟩⟩ := hR
  have p4 := hp k hk 4 (by decide)
  have p5 := hp k hk 5 (by decide)
  have n1 : w + 4 + k ≠ w + 20 := by omega
  have n2 : w ≠ w + 20 := by omega
  have n3 : w + 16 ≠ w + 20 := by omega
  by_cases z : n = 0
  · subst z
    have e0 := (ztx_nil hs hn).mpr rfl
    rw [if_pos e0] at x1
    refine ⟨h, ?_, fun _ _ _ => rfl⟩
    unfold zcost
    rw [if_pos e0, zhl_3 x hx]
    simp only [e57, q57_0, q57_1, q57_4, q57_7, q57_10, q57_11, q57_12, q57_13, q57_14, q57_15, q57_18, q57_19, q57_20, q57_21, q57_22, q57_25, q57_26, q57_27, q57_28, q57_29, q57_30, q57_31, q57_34, q57_35, q57_36, q57_37, q57_38, q57_39, q57_40, q57_43, q57_44, q57_47, q57_50, q57_51, q57_54, q57_57, gf_W4 hw, gf_T4 (zTx_W16 hw), x1, zn3, not_false_eq_true, if_true, Option.bind_some, Option.toList_some, Option.toList_none, List.cons_append, List.nil_append, zB_go, zB_end, zB_no, zokv_i, zokv_r, zokv_n, eq_self]
  · have hT := hT.resolve_left z
    have e0 : ¬ ztx s 1 = [] := fun y => z ((ztx_nil hs hn).mp y)
    rw [if_neg e0] at x1
    obtain ⟨h', e1, e2⟩ := c83 d (fun v _ => Nat.lt_of_lt_of_le (zix1_lt v) (by decide)) hw (zTx_W16 hw) (h := zup (zup (zup h (w + 20) 0 (nI x)) (w + 20) 1 (s (90 + 8 * k + 4))) (w + 20) 2 (s (90 + 8 * k + 5))) (T := ztx s 1) (ok := zok1) (ix := zix1) (by
      unfold zct2 at x2 ⊢
      rw [zr20 _ _ _ n3, zr20 _ _ _ n3, zr20 _ _ _ n3, zr20 (b := w + 16 + 1) _ _ _ (by omega), zr20 (b := w + 16 + 1) _ _ _ (by omega), zr20 (b := w + 16 + 1) _ _ _ (by omega), zr20 (b := w + 16 + 2) _ _ _ (by omega), zr20 (b := w + 16 + 2) _ _ _ (by omega), zr20 (b := w + 16 + 2) _ _ _ (by omega)]
      exact x2) hT
    refine ⟨h', ?_, fun a a1 a2 => by rw [e2 a a2, zup_row_ne a1, zup_row_ne a1, zup_row_ne a1]⟩
    simp only [e57, q57_0, q57_1, q57_4, q57_7, q57_10, q57_11, q57_12, q57_13, q57_14, q57_15, q57_18, q57_19, q57_20, q57_21, q57_22, q57_25, q57_26, q57_27, q57_28, q57_29, q57_30, q57_31, q57_34, q57_35, q57_36, q57_37, q57_38, q57_39, q57_40, q57_43, q57_44, q57_47, q57_50, q57_51, q57_54, q57_57, gf_W4 hw, gf_W5 hw, gf_T4 (zTx_W16 hw), x1, zn1_0, ald_row hw hk (show 4 < 8 by decide), ald_row hw hk (show 5 < 8 by decide), zr20 _ _ _ n1, zr20 _ _ _ n2, zr20 _ _ _ n3, p4, p5, ast_W20 hw (show 0 < 5 by decide), ast_W20 hw (show 1 < 5 by decide), ast_W20 hw (show 2 < 5 by decide), rc_T (zTx_W16 hw), e1, c4, if_true, if_false, Option.bind_some, Option.toList_some, Option.toList_none, List.cons_append, List.nil_append, zB_go, zB_end, zB_no, zokv_i, zokv_r, zokv_n, eq_self]
    unfold zcost
    rw [if_neg e0, zrun_congr (nm' := znm1 s k (nI x)) (ok := zok1) ?_ _ _ _ hT]
    · rw [zheld_eq (by decide)]
    · rintro v (rfl | rfl | rfl) <;> simp (decide := true) [zup, znm1, zix1]
end CE
