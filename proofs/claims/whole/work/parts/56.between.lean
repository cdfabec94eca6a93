/-! ===== between calls: what holds ===== -/
/-- what holds of the row between calls -/
def zI (s : Nat → Int32) (N mk : Nat) : Prop := zJ s N mk ∧ (∃ q, q < 100 ∧ s 7 = nI q) ∧ (∃ t, t ≤ 60 ∧ s 3 = nI t) ∧ (∃ v, v ≤ 24 ∧ s 4 = nI v) ∧ ∀ i, i < 60 → ∃ b, b < 256 ∧ s (404 + i) = nI b
theorem zI_eq {s s' : Nat → Int32} {N mk : Nat} (e : zEq s s') (z : zI s N mk) : zI s' N mk := by
  obtain ⟨z, a, b, c, f⟩ := z
  refine ⟨zJ_eq e z, ?_, ?_, ?_, fun i hi => ?_⟩
  · rw [e _ (by decide)]; exact a
  · rw [e _ (by decide)]; exact b
  · rw [e _ (by decide)]; exact c
  · rw [e _ (by omega)]; exact f i hi
theorem zRWI_eq {w : Nat} {s s' : Nat → Int32} {h : zH} {N mk : Nat} (e : zEq s s') (z : zI s N mk) (r : zRW w s h) : zRW w s' h := zRW_eq e z.1.2.2.2.2.2.1 z.1.2.2.2.2.2.2 r
def zE (h : zH) : Prop := ∀ k, k < 7 → h 90 k = h 95 k
def zIm (h : zH) : Prop := h 0 8 = h 91 3 ∧ (h 91 3 = nI 0 ∨ ∃ N mk, zI (h 93) N mk ∧ zRW 25 (h 93) h)
def zTr (h : zH) : Prop := ∃ t, t ≤ 30 ∧ h 79 1 = nI t ∧ h 91 15 = nI t ∧ ∀ i, i < t → h 80 i = h 101 i
def zSh (h : zH) : Prop := ∀ k, k < 4 → (∃ n, n ≤ 24 ∧ h (82 + 2 * k) 2 = nI n ∧ h 103 k = nI n) ∧ h (82 + 2 * k) 1 = h 102 k ∧ (h 102 k = nI 0 ∨ h 102 k = nI 8 ∨ h 102 k = nI 16 ∨ h 102 k = nI 32) ∧ ∀ i, i < 24 → h (82 + 2 * k + 1) i = h 104 (24 * k + i)
/-- class and reference stand alike -/
def Rel (h : zH) : Prop := (∃ N mk, zI (h 92) N mk) ∧ zRW 1 (h 92) h ∧ zE h ∧ zIm h ∧ zTr h ∧ zSh h
theorem zE_f {h h' : zH} (e : zE h) (f : ∀ a, a = 90 ∨ a = 95 → h' a = h a) : zE h' := fun k hk => by
  rw [f 90 (by omega), f 95 (by omega)]; exact e k hk
theorem zIm_f {h h' : zH} (e : zIm h) (f : ∀ a, (a = 0 ∨ 25 ≤ a ∧ a < 49 ∨ a = 93) → h' a = h a) (g : h' 91 3 = h 91 3) : zIm h' := by
  obtain ⟨e1, e2⟩ := e
  refine ⟨by rw [f 0 (by omega), g]; exact e1, ?_⟩
  rw [g, f 93 (by omega)]
  rcases e2 with e | ⟨N, mk, a, b⟩
  · exact Or.inl e
  · exact Or.inr ⟨N, mk, a, zRW_keep b fun x h1 h2 _ _ _ _ => f x (by omega)⟩
theorem zTr_f {h h' : zH} (e : zTr h) (f : ∀ a, (a = 79 ∨ a = 80 ∨ a = 101) → h' a = h a) (g : h' 91 15 = h 91 15) : zTr h' := by
  obtain ⟨t, a, b, c, i⟩ := e
  refine ⟨t, a, by rw [f 79 (by omega)]; exact b, by rw [g]; exact c, fun j hj => ?_⟩
  rw [f 80 (by omega), f 101 (by omega)]; exact i j hj
theorem zSh_f {h h' : zH} (e : zSh h) (f : ∀ a, (82 ≤ a ∧ a < 90 ∨ 102 ≤ a ∧ a ≤ 104) → h' a = h a) : zSh h' := fun k hk => by
  rw [f (82 + 2 * k) (by omega), f 103 (by omega), f 102 (by omega), f (82 + 2 * k + 1) (by omega), f 104 (by omega)]
  exact e k hk
theorem Rel_row {h h' : zH} {N mk : Nat} (R : Rel h) (z : zI (h' 92) N mk) (r : zRW 1 (h' 92) h') (f : ∀ a, (a = 0 ∨ 25 ≤ a ∧ a < 49 ∨ 79 ≤ a ∧ a ≤ 80 ∨ 82 ≤ a ∧ a < 92 ∨ a = 93 ∨ a = 95 ∨ 101 ≤ a ∧ a ≤ 104) → h' a = h a) : Rel h' := by
  obtain ⟨-, -, e, i, t, q⟩ := R
  have g := f 91 (by omega)
  exact ⟨⟨N, mk, z⟩, r, zE_f e fun a ha => f a (by omega), zIm_f i (fun a ha => f a (by omega)) (by rw [g]), zTr_f t (fun a ha => f a (by omega)) (by rw [g]), zSh_f q fun a ha => f a (by omega)⟩
/-- everything that counts is as it was -/
theorem Rel_same {h h' : zH} (R : Rel h) (f : ∀ a, (a < 49 ∨ 79 ≤ a ∧ a ≤ 80 ∨ 82 ≤ a ∧ a < 94 ∨ a = 95 ∨ 101 ≤ a ∧ a ≤ 104) → a ≠ 16 → a ≠ 20 → a ≠ 21 → a ≠ 22 → h' a = h a) : Rel h' := by
  obtain ⟨⟨N, mk, z⟩, r, -⟩ := id R
  have e := f 92 (by omega) (by decide) (by decide) (by decide) (by decide)
  exact Rel_row (N := N) (mk := mk) R (by rw [e]; exact z) (by rw [e]; exact zRW_keep r fun a h1 h2 h3 h4 h5 h6 => f a (by omega) (by omega) (by omega) (by omega) (by omega)) fun a ha => f a (by omega) (by omega) (by omega) (by omega) (by omega)
def zev (k : Nat) : Int32 := (-1000000) - nI k
def zer (k : Nat) (h : zH) : zH := zup h 90 k (h 90 k + nI 1)
def zem (k : Nat) (h : zH) : zH := zup h 95 k (h 95 k + nI 1)
theorem zer_ne {k a : Nat} {h : zH} (e : a ≠ 90) : zer k h a = h a := zup_row_ne e
theorem zem_ne {k a : Nat} {h : zH} (e : a ≠ 95) : zem k h a = h a := zup_row_ne e
theorem Rel_er {h : zH} {k : Nat} (R : Rel h) : Rel (zem k (zer k h)) := by
  obtain ⟨⟨N, mk, z⟩, r, e, i, t, q⟩ := R
  have f : ∀ a, a ≠ 90 → a ≠ 95 → zem k (zer k h) a = h a := fun a h1 h2 => by rw [zem_ne h2, zer_ne h1]
  refine ⟨⟨N, mk, by rw [f 92 (by decide) (by decide)]; exact z⟩, ?_, fun j hj => ?_, zIm_f i (fun a ha => f a (by omega) (by omega)) (by rw [f 91 (by decide) (by decide)]), zTr_f t (fun a ha => f a (by omega) (by omega)) (by rw [f 91 (by decide) (by decide)]), zSh_f q fun a ha => f a (by omega) (by omega)⟩
  · rw [f 92 (by decide) (by decide)]
    exact zRW_keep r fun a h1 h2 _ _ _ _ => f a (by omega) (by omega)
  · rw [zem_ne (by decide)]
    unfold zem
    rw [zer_ne (show 95 ≠ 90 by decide)]
    unfold zer
    by_cases y : j = k
    · subst y; rw [zup_at, zup_at, e j hj]
    · rw [zup_o y, zup_o y, zup_ne (by decide)]; exact e j hj
section ER
variable (d : Nat) (h : zH)
theorem ce_1 : zCf zT znl (d + 1) 6 [.ref 0, .int (nI 1)] h = some (some (.int (zev 1)), zer 1 h) := c6 d h (by decide)
theorem ce_2 : zCf zT znl (d + 1) 6 [.ref 0, .int (nI 2)] h = some (some (.int (zev 2)), zer 2 h) := c6 d h (by decide)
theorem ce_3 : zCf zT znl (d + 1) 6 [.ref 0, .int (nI 3)] h = some (some (.int (zev 3)), zer 3 h) := c6 d h (by decide)
theorem ce_4 : zCf zT znl (d + 1) 6 [.ref 0, .int (nI 4)] h = some (some (.int (zev 4)), zer 4 h) := c6 d h (by decide)
theorem ce_5 : zCf zT znl (d + 1) 6 [.ref 0, .int (nI 5)] h = some (some (.int (zev 5)), zer 5 h) := c6 d h (by decide)
theorem ce_6 : zCf zT znl (d + 1) 6 [.ref 0, .int (nI 6)] h = some (some (.int (zev 6)), zer 6 h) := c6 d h (by decide)
theorem cm_1 : zCf zT znl (d + 1) 106 [.ref 91, .int (nI 1)] h = some (some (.int (zev 1)), zem 1 h) := c106 d h (by decide)
theorem cm_2 : zCf zT znl (d + 1) 106 [.ref 91, .int (nI 2)] h = some (some (.int (zev 2)), zem 2 h) := c106 d h (by decide)
theorem cm_3 : zCf zT znl (d + 1) 106 [.ref 91, .int (nI 3)] h = some (some (.int (zev 3)), zem 3 h) := c106 d h (by decide)
theorem cm_4 : zCf zT znl (d + 1) 106 [.ref 91, .int (nI 4)] h = some (some (.int (zev 4)), zem 4 h) := c106 d h (by decide)
theorem cm_5 : zCf zT znl (d + 1) 106 [.ref 91, .int (nI 5)] h = some (some (.int (zev 5)), zem 5 h) := c106 d h (by decide)
theorem cm_6 : zCf zT znl (d + 1) 106 [.ref 91, .int (nI 6)] h = some (some (.int (zev 6)), zem 6 h) := c106 d h (by decide)
end ER
/-- class, then reference: one answer, and they stand alike -/
def zOp (D kc km : Nat) (as : List Value) (h : zH) : Prop := ∃ x h1 h2, zCf zT znl D kc (.ref 0 :: as) h = some (some (.int x), h1) ∧ zCf zT znl D km (.ref 91 :: as) h1 = some (some (.int x), h2) ∧ Rel h2
theorem zOp_e {D kc km k : Nat} {as : List Value} {h : zH} (R : Rel h) (c : zCf zT znl D kc (.ref 0 :: as) h = some (some (.int (zev k)), zer k h)) (m : ∀ g, (∀ a, a ≠ 90 → g a = h a) → zCf zT znl D km (.ref 91 :: as) g = some (some (.int (zev k)), zem k g)) : zOp D kc km as h := ⟨_, _, _, c, m _ fun a ha => zer_ne ha, Rel_er R⟩
theorem zOp_p {D kc km : Nat} {as : List Value} {h : zH} {x : Int32} (R : Rel h) (c : zCf zT znl D kc (.ref 0 :: as) h = some (some (.int x), h)) (m : zCf zT znl D km (.ref 91 :: as) h = some (some (.int x), h)) : zOp D kc km as h := ⟨_, _, _, c, m, R⟩
theorem zwi_c (x : Int32) (m : Nat) (hm : m < 1000) : zwi x (nI 0) (nI m) = nI 0 ∨ ∃ n, n ≤ m ∧ x = nI n ∧ zwi x (nI 0) (nI m) = nI 1 := by
  unfold zwi
  by_cases a : x < nI 0
  · exact Or.inl (if_pos a)
  · rw [if_neg a]
    by_cases b : nI m < x
    · exact Or.inl (if_pos b)
    · rw [if_neg b]
      obtain ⟨j, h1, h2⟩ := nI_of2 (nI_toInt (show m < 2 ^ 31 by omega)) a (Int32.not_lt.mp b)
      exact Or.inr ⟨j, h1, h2, rfl⟩
theorem zwi_c1 (x : Int32) (m : Nat) (hm : m < 1000) : zwi x (nI 1) (nI m) = nI 0 ∨ ∃ n, 1 ≤ n ∧ n ≤ m ∧ x = nI n ∧ zwi x (nI 1) (nI m) = nI 1 := by
  unfold zwi
  by_cases a : x < nI 1
  · exact Or.inl (if_pos a)
  · rw [if_neg a]
    by_cases b : nI m < x
    · exact Or.inl (if_pos b)
    · rw [if_neg b]
      have a' : nI 1 ≤ x := Int32.not_lt.mp a
      have a0 : ¬ x < 0 := Int32.not_lt.mpr (Int32.le_trans (show (0 : Int32) ≤ nI 1 by decide) a')
      obtain ⟨j, h1, h2⟩ := nI_of2 (nI_toInt (show m < 2 ^ 31 by omega)) a0 (Int32.not_lt.mp b)
      subst h2
      exact Or.inr ⟨j, (nI_leI (by decide) (by omega)).mp a', h1, rfl, rfl⟩
/-- a place's number, both sides -/
def zpn (x n : Int32) : Int32 := if x < nI 0 then nI 0 else if n ≤ x then nI 0 else nI 1
theorem zpl_c (x : Int32) {N : Nat} (hN : N ≤ 8) : (zpn x (nI N) = nI 0 ∧ zwi x (nI 0) (nI N - nI 1) = nI 0) ∨ ∃ k, k < N ∧ x = nI k ∧ zpn x (nI N) = nI 1 ∧ zwi x (nI 0) (nI N - nI 1) = nI 1 := by
  unfold zpn zwi
  by_cases a : x < nI 0
  · exact Or.inl ⟨if_pos a, if_pos a⟩
  · rw [if_neg a, if_neg a]
    rcases pk_ix x (show N < 2 ^ 31 by omega) with b | b | ⟨k, hk, rfl⟩
    · exact absurd b a
    · refine Or.inl ⟨if_pos b, if_pos ?_⟩
      rcases Nat.eq_zero_or_pos N with c | c
      · subst c
        exact Int32.lt_of_lt_of_le (show nI 0 - nI 1 < nI 0 by decide) b
      · rw [pk_sub c]
        exact Int32.lt_of_lt_of_le (nI_lt (show N - 1 < N by omega) (by omega)) b
    · refine Or.inr ⟨k, hk, rfl, if_neg (nI_ge hk (by omega)), if_neg ?_⟩
      rw [pk_sub (by omega)]
      exact nI_nlt (by omega) (by omega)
section IP
variable (d : Nat) (h : zH) (x : Int32)
theorem c12' : zCf zT znl (d + 1) 12 [.ref 0, .int x] h = some (some (.int (zpn x (h 1 12))), h) := c12 d h x
theorem zpn_01 {x n : Int32} : (zpn x n = 0 ∨ zpn x n = 1) = True := eq_true (by
  unfold zpn
  split
  · exact Or.inl rfl
  · split
    · exact Or.inl rfl
    · exact Or.inr rfl)
end IP
