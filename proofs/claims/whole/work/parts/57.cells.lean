/-! ===== one cell changed, in the row and in the World ===== -/
/-- slot l of the memory's object b holds the row's cell m -/
def zloc (w b l m : Nat) : Prop := (b = w + 1 ∧ l < 80 ∧ m = 10 + l) ∨ (b = w + 2 ∧ l < 3 ∧ m = 6 + l) ∨ (w + 4 ≤ b ∧ b < w + 12 ∧ l < 8 ∧ m = 90 + 8 * (b - (w + 4)) + l) ∨ (b = w ∧ ((l = 9 ∧ m = 1) ∨ (l = 10 ∧ m = 2) ∨ (l = 11 ∧ m = 5) ∨ (l = 12 ∧ m = 0) ∨ (l = 13 ∧ m = 3) ∨ (l = 14 ∧ m = 4))) ∨ (b = w + 22 ∧ l < 60 ∧ m = 404 + l) ∨ (b = w + 23 ∧ l < 24 ∧ m = 464 + l)
theorem zloc_1 {w b l m b' l' m' : Nat} (p : zloc w b l m) (q : zloc w b' l' m') : (b = b' ∧ l = l') ↔ m = m' := by
  unfold zloc at p q
  rcases p with p | p | p | ⟨p, p'⟩ | p | p <;> rcases q with q | q | q | ⟨q, q'⟩ | q | q <;> omega
theorem ztx_al {s s' : Nat → Int32} {u n : Nat} (e : ∀ i, 154 + 125 * u ≤ i → i < 154 + 125 * u + 125 → s' i = s i) (hu : u < 2) (hs : s (154 + 125 * u) = nI n) (hn : n ≤ 60) : ztx s' u = ztx s u := by
  unfold ztx
  rw [e _ (by omega) (by omega), hs, nI_clamp (by omega)]
  apply List.map_congr_left
  intro a ha
  have := List.mem_range.mp ha
  rw [e _ (by omega) (by omega), e _ (by omega) (by omega)]
theorem zTI_al {ok : Int32 → Prop} {s s' : Nat → Int32} {u : Nat} (e : ∀ i, 154 + 125 * u ≤ i → i < 154 + 125 * u + 125 → s' i = s i) (hu : u < 2) (t : zTI ok s u) : ztx s' u = ztx s u ∧ zTI ok s' u := by
  obtain ⟨n, h1, h2, h3⟩ := t
  have x := ztx_al e hu h2 h1
  exact ⟨x, n, h1, by rw [e _ (by omega) (by omega)]; exact h2, by rw [x]; exact h3⟩
theorem zloc_t {w b l m i : Nat} (p : zloc w b l m) (h1 : 154 ≤ i) (h2 : i < 404) : i ≠ m := by
  unfold zloc at p
  omega
theorem zloc_b {w b l m : Nat} (p : zloc w b l m) : b = w ∨ b = w + 1 ∨ b = w + 2 ∨ (w + 4 ≤ b ∧ b < w + 12) ∨ b = w + 22 ∨ b = w + 23 := by
  unfold zloc at p
  omega
theorem zRW_ud {w a j i : Nat} {s : Nat → Int32} {h : zH} {x : Int32} (L : zloc w a j i) (t0 : zTI zok0 s 0) (t1 : zTI zok1 s 1) (r : zRW w s h) : zRW w (zud s i x) (zup h a j x) := by
  obtain ⟨a1, a2, a3, ⟨b1, b2, b3, b4, b5, b6⟩, a5, a6, a7, a8⟩ := r
  have key : ∀ b l m, zloc w b l m → h b l = s m → zup h a j x b l = zud s i x m := by
    intro b l m p e
    by_cases q : m = i
    · obtain ⟨q1, q2⟩ := (zloc_1 p L).mpr q
      subst q; subst q1; subst q2
      rw [zup_at, zud_at]
    · have z : ¬ (b = a ∧ l = j) := fun y => q ((zloc_1 p L).mp y)
      rw [zud_ne q]
      show (if b = a ∧ l = j then x else h b l) = s m
      rw [if_neg z]; exact e
  have tx : ∀ i', 154 ≤ i' → i' < 404 → zud s i x i' = s i' := fun i' h1 h2 => zud_ne (zloc_t L h1 h2)
  have B := zloc_b L
  refine ⟨fun c hc => key _ _ _ (by unfold zloc; omega) (a1 c hc), fun l hl => key _ _ _ (by unfold zloc; omega) (a2 l hl), fun k hk l hl => key _ _ _ (by unfold zloc; omega) (a3 k hk l hl), ⟨key _ _ _ (by unfold zloc; omega) b1, key _ _ _ (by unfold zloc; omega) b2, key _ _ _ (by unfold zloc; omega) b3, key _ _ _ (by unfold zloc; omega) b4, key _ _ _ (by unfold zloc; omega) b5, key _ _ _ (by unfold zloc; omega) b6⟩, fun l hl => key _ _ _ (by unfold zloc; omega) (a5 l hl), fun l hl => key _ _ _ (by unfold zloc; omega) (a6 l hl), ?_, ?_⟩
  · rw [(zTI_al (fun i h1 h2 => tx i (by omega) (by omega)) (by decide) t0).1]
    exact zRT_row (zup_row_ne (by omega)) (zup_row_ne (by omega)) (zup_row_ne (by omega)) a7
  · rw [(zTI_al (fun i h1 h2 => tx i (by omega) (by omega)) (by decide) t1).1]
    exact zRT_row (zup_row_ne (by omega)) (zup_row_ne (by omega)) (zup_row_ne (by omega)) a8
theorem zJ_udh {s : Nat → Int32} {N mk i : Nat} {x : Int32} (hi : 404 ≤ i) (z : zJ s N mk) : zJ (zud s i x) N mk := by
  obtain ⟨a, b, c, e, f, g, p⟩ := z
  have tx : ∀ i', 154 ≤ i' → i' < 404 → zud s i x i' = s i' := fun i' _ h2 => zud_ne (by omega)
  exact ⟨by rw [zud_ne (by omega)]; exact a, b, by rw [zud_ne (by omega)]; exact c, e, fun k' hk' => zP_ud (fun j hj h6 => by omega) (f k' hk'), (zTI_al (fun i h1 h2 => tx i (by omega) (by omega)) (by decide) g).2, (zTI_al (fun i h1 h2 => tx i (by omega) (by omega)) (by decide) p).2⟩
theorem zJ_ud0 {s : Nat → Int32} {N N' mk : Nat} (hN : N' ≤ 8) (z : zJ s N mk) : zJ (zud s 0 (nI N')) N' mk := by
  obtain ⟨a, b, c, e, f, g, p⟩ := z
  exact ⟨zud_at .., hN, by rw [zud_ne (by decide)]; exact c, e, fun k' hk' => zP_ud (fun j hj h6 => by omega) (f k' hk'), zTI_ud (by omega) g, zTI_ud (by omega) p⟩
/-- what a place's cell j may hold -/
def zpok (j : Nat) (x : Int32) : Prop := (j = 0 → ∃ n, n < 7 ∧ x = nI n) ∧ (j = 1 ∨ j = 3 ∨ j = 4 ∨ j = 5 → ∃ n, n < 100 ∧ x = nI n) ∧ (j = 2 → ∃ n, n < 80 ∧ x = nI n) ∧ (j = 7 → ∃ n, n < 2 ∧ x = nI n)
theorem zP_udp {s : Nat → Int32} {k k' j : Nat} {x : Int32} (hj : j < 8) (ok : zpok j x) (p : zP s k') : zP (zud s (90 + 8 * k + j) x) k' := by
  by_cases z : k' = k
  · subst z
    obtain ⟨o0, o1, o2, o7⟩ := ok
    obtain ⟨kd, m, hm, v, ho, g, hu, l0, l1, l2, l3, l4, l5, l7, p0, p1, p2, p3, p4, p5, p7⟩ := p
    have pick : ∀ (i B n : Nat), s (90 + 8 * k' + i) = nI n → n < B → (j = i → ∃ n, n < B ∧ x = nI n) → ∃ n, n < B ∧ zud s (90 + 8 * k' + j) x (90 + 8 * k' + i) = nI n := by
      intro i B n e hn f
      by_cases y : j = i
      · obtain ⟨n', h1, h2⟩ := f y
        subst y
        exact ⟨n', h1, by rw [zud_at]; exact h2⟩
      · exact ⟨n, hn, by rw [zud_ne (by omega)]; exact e⟩
    obtain ⟨kd', q0, r0⟩ := pick 0 7 kd p0 l0 o0
    obtain ⟨m', q1, r1⟩ := pick 1 100 m p1 l1 fun e => o1 (by omega)
    obtain ⟨hm', q2, r2⟩ := pick 2 80 hm p2 l2 o2
    obtain ⟨v', q3, r3⟩ := pick 3 100 v p3 l3 fun e => o1 (by omega)
    obtain ⟨ho', q4, r4⟩ := pick 4 100 ho p4 l4 fun e => o1 (by omega)
    obtain ⟨g', q5, r5⟩ := pick 5 100 g p5 l5 fun e => o1 (by omega)
    obtain ⟨hu', q7, r7⟩ := pick 7 2 hu p7 l7 o7
    exact ⟨kd', m', hm', v', ho', g', hu', q0, q1, q2, q3, q4, q5, q7, r0, r1, r2, r3, r4, r5, r7⟩
  · exact zP_ud (fun j hj _ => by omega) p
theorem zJ_udp {s : Nat → Int32} {N mk k j : Nat} {x : Int32} (hk : k < 8) (hj : j < 8) (ok : zpok j x) (z : zJ s N mk) : zJ (zud s (90 + 8 * k + j) x) N mk := by
  obtain ⟨a, b, c, e, f, g, i⟩ := z
  exact ⟨by rw [zud_ne (by omega)]; exact a, b, by rw [zud_ne (by omega)]; exact c, e, fun k' hk' => zP_udp hj ok (f k' hk'), zTI_ud (by omega) g, zTI_ud (by omega) i⟩
theorem zI_w {s : Nat → Int32} {i N mk N' mk' : Nat} {x : Int32} (zj : zJ (zud s i x) N' mk') (z : zI s N mk) (h7 : i = 7 → ∃ q, q < 100 ∧ x = nI q) (h3 : i = 3 → ∃ t, t ≤ 60 ∧ x = nI t) (h4 : i = 4 → ∃ v, v ≤ 24 ∧ x = nI v) (hT : 404 ≤ i → i < 464 → ∃ b, b < 256 ∧ x = nI b) : zI (zud s i x) N' mk' := by
  obtain ⟨-, a, b, c, f⟩ := z
  have pick : ∀ (m : Nat) (P : Nat → Prop), (∃ n, P n ∧ s m = nI n) → (i = m → ∃ n, P n ∧ x = nI n) → ∃ n, P n ∧ zud s i x m = nI n := by
    intro m P e g
    by_cases y : i = m
    · obtain ⟨n, h1, h2⟩ := g y
      subst y
      exact ⟨n, h1, by rw [zud_at]; exact h2⟩
    · obtain ⟨n, h1, h2⟩ := e
      exact ⟨n, h1, by rw [zud_ne (by omega)]; exact h2⟩
  exact ⟨zj, pick 7 (· < 100) a h7, pick 3 (· ≤ 60) b h3, pick 4 (· ≤ 24) c h4, fun l hl => pick (404 + l) (· < 256) (f l hl) fun e => hT (by omega) (by omega)⟩
theorem zOp_w {D kc km a j i N mk : Nat} {as : List Value} {h : zH} {x v : Int32} (R : Rel h) (c : zCf zT znl D kc (.ref 0 :: as) h = some (some (.int x), zup h a j v)) (m : ∀ g, (∀ b, b ≠ a → g b = h b) → zCf zT znl D km (.ref 91 :: as) g = some (some (.int x), zup g 92 i v)) (L : zloc 1 a j i) (z : zI (zud (h 92) i v) N mk) : zOp D kc km as h := by
  obtain ⟨⟨N', mk', z'⟩, r, -⟩ := id R
  have B := zloc_b L
  refine ⟨_, _, _, c, m _ fun b hb => zup_row_ne hb, ?_⟩
  have e : zup (zup h a j v) 92 i v 92 = zud (h 92) i v := by rw [zup_ud, zup_row_ne (by omega)]
  refine Rel_row (N := N) (mk := mk) R (by rw [e]; exact z) ?_ fun b hb => by rw [zup_row_ne (by omega), zup_row_ne (by omega)]
  rw [e]
  exact zRW_keep (zRW_ud L z'.1.2.2.2.2.2.1 z'.1.2.2.2.2.2.2 r) fun b h1 h2 _ _ _ _ => zup_row_ne (by omega)
