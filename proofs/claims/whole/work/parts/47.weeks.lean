/-! ===== weeks, one after another: both sides ===== -/
def zwks : Nat → (Nat → Int32) → Nat → Int32
  | 0, s => s
  | n + 1, s => zwks n (zweek s)
theorem zends_lo {s : Nat → Int32} {i : Nat} (hi : i < 90) (h2 : i ≠ 2) : zends s i = s i := by
  unfold zends
  rw [zud_ne h2, zit_lo fun s j => zen1_lo hi]
theorem zweek_lo {s : Nat → Int32} {N mk i : Nat} (z : zJ s N mk) (hi : i < 90) (h1 : i ≠ 1) (h2 : i ≠ 2) : zweek s i = s i := by
  obtain ⟨m, -, lo⟩ := zmid z
  unfold zweek
  rw [zn_of z.1 (by have := z.2.1; omega), zends_lo hi h2, lo i hi h1]
theorem zJ_week {s : Nat → Int32} {N mk : Nat} (z : zJ s N mk) : ∃ m, zJ (zweek s) N m := by
  obtain ⟨m, z2, -⟩ := zmid z
  refine ⟨m, ?_⟩
  unfold zweek
  rw [zn_of z.1 (by have := z.2.1; omega)]
  exact zJ_ends z2
theorem zwks_J : ∀ (n : Nat) {s : Nat → Int32} {N mk : Nat}, zJ s N mk → ∃ m, zJ (zwks n s) N m
  | 0, _, _, a, z => ⟨a, z⟩
  | n + 1, _, _, _, z => by
    obtain ⟨m, z2⟩ := zJ_week z
    exact zwks_J n z2
theorem zwks_lo : ∀ (n : Nat) {s : Nat → Int32} {N mk i : Nat}, zJ s N mk → i < 90 → i ≠ 1 → i ≠ 2 → zwks n s i = s i
  | 0, _, _, _, _, _, _, _, _ => rfl
  | n + 1, _, _, _, _, z, h, h1, h2 => by
    obtain ⟨m, z2⟩ := zJ_week z
    exact (zwks_lo n z2 h h1 h2).trans (zweek_lo z h h1 h2)
section WS
variable (d : Nat)
theorem w160 {M q : Nat} (hM : M < 2 ^ 31) (hq : q < 100) : ∀ (n j : Nat) (h : zH) (N mk : Nat), j + n = M → zJ (h 92) N mk → h 92 7 = nI q → ∃ h', zXf zT znl (d + 7) 160 2 [.ref 91, .int (nI M), .int (nI j)] [] h = some (none, h') ∧ h' 92 = zwks n (h 92) ∧ ∀ a, a ≠ 92 → a ≠ 97 → a ≠ 98 → a ≠ 99 → h' a = h a := by
  intro n
  induction n with
  | zero =>
    intro j h N mk hj z h7
    have a : nI M ≤ nI j := by rw [show M = j by omega]; exact Int32.le_refl _
    refine ⟨h, ?_, rfl, fun _ _ _ _ _ => rfl⟩
    rw [q160_2]
    simp only [q160_3, q160_4, q160_17, a, if_true, Option.bind_some, Option.toList_some, Option.toList_none, List.cons_append, List.nil_append, zB_go, zB_end, zB_no, zokv_i, zokv_r, zokv_n, eq_self]
  | succ n ih =>
    intro j h N mk hj z h7
    have a : ¬ (nI M ≤ nI j) := nI_ge (by omega) (by omega)
    obtain ⟨h1, e1, e2, e3⟩ := c157 d hq z h7
    obtain ⟨m, z2⟩ := zJ_week z
    obtain ⟨h', f1, f2, f3⟩ := ih (j + 1) h1 N m (by omega) (by rw [e2]; exact z2) (by rw [e2, zweek_lo z (by decide) (by decide) (by decide)]; exact h7)
    refine ⟨h', ?_, by rw [f2, e2]; rfl, fun b b1 b2 b3 b4 => (f3 b b1 b2 b3 b4).trans (e3 b b1 b2 b3 b4)⟩
    rw [← f1, q160_2]
    simp only [q160_3, q160_4, q160_7, q160_8, q160_11, q160_14, a, e1, nI_add, rc_M, if_false, Option.bind_some, Option.toList_some, Option.toList_none, List.cons_append, List.nil_append, zB_go, zB_end, zB_no, zokv_i, zokv_r, zokv_n, eq_self]
theorem c160 {h : zH} {M N mk q : Nat} (hM : M < 2 ^ 31) (hq : q < 100) (z : zJ (h 92) N mk) (h7 : h 92 7 = nI q) : ∃ h', zCf zT znl (d + 8) 160 [.ref 91, .int (nI M)] h = some (none, h') ∧ h' 92 = zwks M (h 92) ∧ ∀ a, a ≠ 92 → a ≠ 97 → a ≠ 98 → a ≠ 99 → h' a = h a := by
  obtain ⟨h', f1, f2, f3⟩ := w160 d hM hq M 0 h N mk (Nat.zero_add M) z h7
  refine ⟨h', ?_, f2, f3⟩
  rw [← f1]
  simp only [e160, q160_0, q160_1, Option.bind_some, Option.toList_some, Option.toList_none, List.cons_append, List.nil_append, zB_go, zB_end, zB_no, zokv_i, zokv_r, zokv_n, eq_self]
/-- the class's week -/
theorem week_C {w N mk q : Nat} {s : Nat → Int32} {h : zH} (hw : zW w) (hq : q < 100) (z : zJ s N mk) (h7 : s 7 = nI q) (hR : zRW w s h) : ∃ h1 h3 h4, zCf zT znl (d + 6) 62 [.ref w] h = some (none, h1) ∧ zCf zT znl (d + 6) 67 [.ref w] h1 = some (none, zup h1 w 9 (zmove s)) ∧ zCf zT znl (d + 6) 68 [.ref w] (zup h1 w 9 (zmove s)) = some (none, h3) ∧ zCf zT znl (d + 6) 69 [.ref w] h3 = some (none, h4) ∧ zRW w (zweek s) h4 ∧ ∀ a, ¬ (w ≤ a ∧ a < w + 24) → h4 a = h a := by
  obtain ⟨hN, hN8, hm, hmk, hP, t0, t1⟩ := id z
  obtain ⟨h1, e1, e2, e3⟩ := c62 d hw hN hN8 hm hmk hP t0 t1 hR
  have hR1 : zRW w s h1 := zRW_keep hR fun b _ _ b1 b2 b3 b4 => e2 b b1 b2 b3 b4
  have m1 := c67 (d + 2) hw hR1 hN hN8 hm hmk hP e3
  have hR2 : zRW w (zud s 1 (zmove s)) (zup h1 w 9 (zmove s)) := zRW_own (Or.inl ⟨rfl, rfl⟩) hR1
  obtain ⟨m, hm2, em⟩ := zmove_n z
  obtain ⟨h3, f1, f2, f3⟩ := c68 (d + 1) (g := zshout s) hw (by rw [em]; exact zJ_ud1 hm2 z) hR2 (fun i hi => by rw [zup_row_ne (by omega)]; exact e3 i hi) (zshout_n s)
  obtain ⟨m', z2, lo⟩ := zmid z
  obtain ⟨h4, g1, g2, g3⟩ := c69 (d + 1) hw hq z2 ((lo 7 (by decide) (by decide)).trans h7) f2
  refine ⟨h1, h3, h4, e1, m1, f1, g1, ?_, fun a ha => ?_⟩
  · unfold zweek
    rw [zn_of hN (by omega)]
    exact g2
  · rw [g3 a (by omega) (by omega), f3 a (by omega) (by omega) (by omega), zup_row_ne (by omega)]
    exact e2 a (by omega) (by omega) (by omega) (by omega)
theorem w70 {w M q : Nat} (hw : zW w) (hM : M < 2 ^ 31) (hq : q < 100) : ∀ (n j : Nat) (s : Nat → Int32) (h : zH) (N mk : Nat), j + n = M → zJ s N mk → s 7 = nI q → zRW w s h → ∃ h', zXf zT znl (d + 6) 70 2 [.ref w, .int (nI M), .int (nI j)] [] h = some (none, h') ∧ zRW w (zwks n s) h' ∧ ∀ a, ¬ (w ≤ a ∧ a < w + 24) → h' a = h a := by
  intro n
  induction n with
  | zero =>
    intro j s h N mk hj z h7 hR
    have a : nI M ≤ nI j := by rw [show M = j by omega]; exact Int32.le_refl _
    refine ⟨h, ?_, hR, fun _ _ => rfl⟩
    rw [q70_2]
    simp only [q70_3, q70_4, q70_29, a, if_true, Option.bind_some, Option.toList_some, Option.toList_none, List.cons_append, List.nil_append, zB_go, zB_end, zB_no, zokv_i, zokv_r, zokv_n, eq_self]
  | succ n ih =>
    intro j s h N mk hj z h7 hR
    have a : ¬ (nI M ≤ nI j) := nI_ge (by omega) (by omega)
    obtain ⟨h1, h3, h4, e1, e2, e3, e4, e5, e6⟩ := week_C d hw hq z h7 hR
    obtain ⟨m, z2⟩ := zJ_week z
    obtain ⟨h', f1, f2, f3⟩ := ih (j + 1) (zweek s) h4 N m (by omega) z2 ((zweek_lo z (by decide) (by decide) (by decide)).trans h7) e5
    refine ⟨h', ?_, f2, fun b hb => (f3 b hb).trans (e6 b hb)⟩
    rw [← f1, q70_2]
    simp only [q70_3, q70_4, q70_7, q70_8, q70_11, q70_12, q70_15, q70_16, q70_19, q70_20, q70_23, q70_26, a, e1, e2, e3, e4, nI_add, rc_W hw, if_false, Option.bind_some, Option.toList_some, Option.toList_none, List.cons_append, List.nil_append, zB_go, zB_end, zB_no, zokv_i, zokv_r, zokv_n, eq_self]
theorem c70 {w M N mk q : Nat} {s : Nat → Int32} {h : zH} (hw : zW w) (hM : M < 2 ^ 31) (hq : q < 100) (z : zJ s N mk) (h7 : s 7 = nI q) (hR : zRW w s h) : ∃ h', zCf zT znl (d + 7) 70 [.ref w, .int (nI M)] h = some (none, h') ∧ zRW w (zwks M s) h' ∧ ∀ a, ¬ (w ≤ a ∧ a < w + 24) → h' a = h a := by
  obtain ⟨h', f1, f2, f3⟩ := w70 d hw hM hq M 0 s h N mk (Nat.zero_add M) z h7 hR
  refine ⟨h', ?_, f2, f3⟩
  rw [← f1]
  simp only [e70, q70_0, q70_1, Option.bind_some, Option.toList_some, Option.toList_none, List.cons_append, List.nil_append, zB_go, zB_end, zB_no, zokv_i, zokv_r, zokv_n, eq_self]
end WS
