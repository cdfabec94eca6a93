/-! ===== the row, one cell changed ===== -/
def zud (s : Nat → Int32) (i : Nat) (x : Int32) : Nat → Int32 := fun j => if j = i then x else s j
theorem zud_at (s : Nat → Int32) (i : Nat) (x : Int32) : zud s i x i = x := if_pos rfl
theorem zud_ne {s : Nat → Int32} {i j : Nat} {x : Int32} (e : j ≠ i) : zud s i x j = s j := if_neg e
theorem zup_ud (h : zH) (a j : Nat) (x : Int32) : zup h a j x a = zud (h a) j x := by
  funext i
  by_cases y : i = j
  · subst y; rw [zup_at, zud_at]
  · rw [zup_o y, zud_ne y]
theorem zud_comm {s : Nat → Int32} {i j : Nat} {x y : Int32} (e : i ≠ j) : zud (zud s i x) j y = zud (zud s j y) i x := by
  funext k
  by_cases a : k = i
  · subst a; rw [zud_ne e, zud_at, zud_at]
  · by_cases b : k = j
    · subst b; rw [zud_at, zud_ne a, zud_at]
    · rw [zud_ne b, zud_ne a, zud_ne a, zud_ne b]
theorem ztx_ud {s : Nat → Int32} {i u : Nat} {x : Int32} (hi : i < 154) : ztx (zud s i x) u = ztx s u := by
  unfold ztx
  rw [zud_ne (by omega)]
  apply List.map_congr_left
  intro a _
  rw [zud_ne (by omega), zud_ne (by omega)]
theorem zTI_ud {ok : Int32 → Prop} {s : Nat → Int32} {i u : Nat} {x : Int32} (hi : i < 154) (t : zTI ok s u) : zTI ok (zud s i x) u := by
  obtain ⟨n, h1, h2, h3⟩ := t
  exact ⟨n, h1, by rw [zud_ne (by omega)]; exact h2, by rw [ztx_ud hi]; exact h3⟩
/-- what holds of the row all along -/
def zJ (s : Nat → Int32) (N mk : Nat) : Prop := s 0 = nI N ∧ N ≤ 8 ∧ s 1 = nI mk ∧ mk < 80 ∧ (∀ k, k < 8 → zP s k) ∧ zTI zok0 s 0 ∧ zTI zok1 s 1
theorem zP_ud {s : Nat → Int32} {i k : Nat} {x : Int32} (e : ∀ j, j < 8 → j ≠ 6 → 90 + 8 * k + j ≠ i) (p : zP s k) : zP (zud s i x) k := by
  unfold zP at p ⊢
  have e0 := e 0 (by decide) (by decide)
  rw [Nat.add_zero] at e0
  rw [zud_ne e0, zud_ne (e 1 (by decide) (by decide)), zud_ne (e 2 (by decide) (by decide)), zud_ne (e 3 (by decide) (by decide)), zud_ne (e 4 (by decide) (by decide)), zud_ne (e 5 (by decide) (by decide)), zud_ne (e 7 (by decide) (by decide))]
  exact p
theorem zP_ud4 {s : Nat → Int32} {k k' n : Nat} (hn : n < 100) (p : zP s k') : zP (zud s (90 + 8 * k + 4) (nI n)) k' := by
  by_cases z : k' = k
  · subst z
    obtain ⟨kd, m, hm, v, ho, g, hu, l0, l1, l2, l3, l4, l5, l7, p0, p1, p2, p3, p4, p5, p7⟩ := p
    refine ⟨kd, m, hm, v, n, g, hu, l0, l1, l2, l3, hn, l5, l7, ?_, ?_, ?_, ?_, ?_, ?_, ?_⟩
    · rw [zud_ne (by omega)]; exact p0
    · rw [zud_ne (by omega)]; exact p1
    · rw [zud_ne (by omega)]; exact p2
    · rw [zud_ne (by omega)]; exact p3
    · exact zud_at ..
    · rw [zud_ne (by omega)]; exact p5
    · rw [zud_ne (by omega)]; exact p7
  · exact zP_ud (fun j hj _ => by omega) p
theorem zJ_ud6 {s : Nat → Int32} {N mk k : Nat} {x : Int32} (hk : k < 8) (j : zJ s N mk) : zJ (zud s (90 + 8 * k + 6) x) N mk := by
  obtain ⟨a, b, c, e, f, g, i⟩ := j
  exact ⟨by rw [zud_ne (by omega)]; exact a, b, by rw [zud_ne (by omega)]; exact c, e, fun k' hk' => zP_ud (fun j hj h6 => by omega) (f k' hk'), zTI_ud (by omega) g, zTI_ud (by omega) i⟩
theorem zJ_ud4 {s : Nat → Int32} {N mk k n : Nat} (hk : k < 8) (hn : n < 100) (j : zJ s N mk) : zJ (zud s (90 + 8 * k + 4) (nI n)) N mk := by
  obtain ⟨a, b, c, e, f, g, i⟩ := j
  exact ⟨by rw [zud_ne (by omega)]; exact a, b, by rw [zud_ne (by omega)]; exact c, e, fun k' hk' => zP_ud4 hn (f k' hk'), zTI_ud (by omega) g, zTI_ud (by omega) i⟩
theorem zJ_udx {s : Nat → Int32} {N mk i : Nat} {x : Int32} (hi : 2 ≤ i) (hi2 : i < 90) (j : zJ s N mk) : zJ (zud s i x) N mk := by
  obtain ⟨a, b, c, e, f, g, p⟩ := j
  exact ⟨by rw [zud_ne (by omega)]; exact a, b, by rw [zud_ne (by omega)]; exact c, e, fun k' hk' => zP_ud (fun j hj h6 => by omega) (f k' hk'), zTI_ud (by omega) g, zTI_ud (by omega) p⟩
theorem zJ_ud1 {s : Nat → Int32} {N mk mk' : Nat} (hm : mk' < 80) (j : zJ s N mk) : zJ (zud s 1 (nI mk')) N mk' := by
  obtain ⟨a, b, c, e, f, g, i⟩ := j
  exact ⟨by rw [zud_ne (by omega)]; exact a, b, zud_at .., hm, fun k' hk' => zP_ud (fun j hj h6 => by omega) (f k' hk'), zTI_ud (by omega) g, zTI_ud (by omega) i⟩
/-! ===== the same in the class's World ===== -/
theorem zRT_row {h h1 : zH} {t : Nat} {ix : Int32 → Nat} {T : List (Int32 × Int32)} (e0 : h1 t = h t) (e1 : h1 (t + 1) = h (t + 1)) (e2 : h1 (t + 2) = h (t + 2)) (r : zRT h t ix T) : zRT h1 t ix T := by
  unfold zRT zct2 at r ⊢
  rw [e0, e1, e2]
  exact r
theorem zRW_pl {w k j : Nat} {s : Nat → Int32} {h : zH} {x : Int32} (hk : k < 8) (hj : j < 8) (r : zRW w s h) : zRW w (zud s (90 + 8 * k + j) x) (zup h (w + 4 + k) j x) := by
  obtain ⟨a1, a2, a3, ⟨b1, b2, b3, b4, b5, b6⟩, a5, a6, a7, a8⟩ := r
  refine ⟨fun c hc => ?_, fun i hi => ?_, fun k' hk' j' hj' => ?_, ⟨?_, ?_, ?_, ?_, ?_, ?_⟩, fun i hi => ?_, fun i hi => ?_, ?_, ?_⟩
  · rw [zup_ne (by omega), zud_ne (by omega)]; exact a1 c hc
  · rw [zup_ne (by omega), zud_ne (by omega)]; exact a2 i hi
  · by_cases z : k' = k
    · subst z
      by_cases y : j' = j
      · subst y; rw [zup_at, zud_at]
      · rw [zup_o y, zud_ne (by omega)]; exact a3 k' hk' j' hj'
    · rw [zup_ne (by omega), zud_ne (by omega)]; exact a3 k' hk' j' hj'
  · rw [zup_ne (by omega), zud_ne (by omega)]; exact b1
  · rw [zup_ne (by omega), zud_ne (by omega)]; exact b2
  · rw [zup_ne (by omega), zud_ne (by omega)]; exact b3
  · rw [zup_ne (by omega), zud_ne (by omega)]; exact b4
  · rw [zup_ne (by omega), zud_ne (by omega)]; exact b5
  · rw [zup_ne (by omega), zud_ne (by omega)]; exact b6
  · rw [zup_ne (by omega), zud_ne (by omega)]; exact a5 i hi
  · rw [zup_ne (by omega), zud_ne (by omega)]; exact a6 i hi
  · rw [ztx_ud (by omega)]; exact zRT_row (zup_row_ne (by omega)) (zup_row_ne (by omega)) (zup_row_ne (by omega)) a7
  · rw [ztx_ud (by omega)]; exact zRT_row (zup_row_ne (by omega)) (zup_row_ne (by omega)) (zup_row_ne (by omega)) a8
/-- the World's own fields: field f holds cell i -/
theorem zRW_own {w f i : Nat} {s : Nat → Int32} {h : zH} {x : Int32} (hf : (f = 9 ∧ i = 1) ∨ (f = 10 ∧ i = 2) ∨ (f = 11 ∧ i = 5)) (r : zRW w s h) : zRW w (zud s i x) (zup h w f x) := by
  obtain ⟨a1, a2, a3, ⟨b1, b2, b3, b4, b5, b6⟩, a5, a6, a7, a8⟩ := r
  have own : ∀ f' i', h w f' = s i' → (f' = f ↔ i' = i) → zup h w f x w f' = zud s i x i' := by
    intro f' i' e z
    by_cases y : f' = f
    · have y2 := z.mp y
      subst y; subst y2; rw [zup_at, zud_at]
    · rw [zup_o y, zud_ne (fun q => y (z.mpr q))]; exact e
  refine ⟨fun c hc => ?_, fun i hi => ?_, fun k' hk' j' hj' => ?_, ⟨own 9 1 b1 (by omega), own 10 2 b2 (by omega), own 11 5 b3 (by omega), own 12 0 b4 (by omega), own 13 3 b5 (by omega), own 14 4 b6 (by omega)⟩, fun i hi => ?_, fun i hi => ?_, ?_, ?_⟩
  · rw [zup_ne (by omega), zud_ne (by omega)]; exact a1 c hc
  · rw [zup_ne (by omega), zud_ne (by omega)]; exact a2 i hi
  · rw [zup_ne (by omega), zud_ne (by omega)]; exact a3 k' hk' j' hj'
  · rw [zup_ne (by omega), zud_ne (by omega)]; exact a5 i hi
  · rw [zup_ne (by omega), zud_ne (by omega)]; exact a6 i hi
  · rw [ztx_ud (by omega)]; exact zRT_row (zup_row_ne (by omega)) (zup_row_ne (by omega)) (zup_row_ne (by omega)) a7
  · rw [ztx_ud (by omega)]; exact zRT_row (zup_row_ne (by omega)) (zup_row_ne (by omega)) (zup_row_ne (by omega)) a8
