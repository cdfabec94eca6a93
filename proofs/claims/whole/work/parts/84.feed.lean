/-! ===== untell, feed ===== -/
theorem zTI_c0 {ok : Int32 → Prop} {s : Nat → Int32} {u : Nat} : ztx (zud s (154 + 125 * u) (nI 0)) u = [] ∧ zTI ok (zud s (154 + 125 * u) (nI 0)) u := by
  refine ⟨(ztx_nil (zud_at ..) (by decide)).mpr rfl, 0, by decide, zud_at .., Or.inl rfl⟩
theorem zJ_ut {s s' : Nat → Int32} {N mk : Nat} (z : zJ s N mk) (e : ∀ i, i < 154 → s' i = s i) (t0 : zTI zok0 s' 0) (t1 : zTI zok1 s' 1) : zJ s' N mk := by
  obtain ⟨a, b, c, f, g, -, -⟩ := z
  refine ⟨by rw [e 0 (by decide)]; exact a, b, by rw [e 1 (by decide)]; exact c, f, fun k hk => ?_, t0, t1⟩
  have p := g k hk
  unfold zP at p ⊢
  rw [e _ (by omega), e _ (by omega), e _ (by omega), e _ (by omega), e _ (by omega), e _ (by omega), e _ (by omega)]
  exact p
theorem zI_ut {s s' : Nat → Int32} {N mk : Nat} (z : zI s N mk) (e : ∀ i, (i < 154 ∨ 404 ≤ i) → s' i = s i) (t0 : zTI zok0 s' 0) (t1 : zTI zok1 s' 1) : zI s' N mk :=
  zI_mv z (zJ_ut z.1 (fun i hi => e i (Or.inl hi)) t0 t1) fun i hi => e i (by omega)
/-- the World's texts anew, all else as it was -/
theorem zRW_ut {w : Nat} {s s' : Nat → Int32} {h h' : zH} (r : zRW w s h) (e : ∀ i, (i < 154 ∨ 404 ≤ i) → s' i = s i) (f : ∀ a, w ≤ a → a < w + 24 → ¬ (w + 12 ≤ a ∧ a < w + 15) → ¬ (w + 16 ≤ a ∧ a < w + 19) → a ≠ w + 15 → a ≠ w + 19 → a ≠ w + 20 → a ≠ w + 21 → h' a = h a) (t0 : zRT h' (w + 12) zix0 (ztx s' 0)) (t1 : zRT h' (w + 16) zix1 (ztx s' 1)) : zRW w s' h' := by
  obtain ⟨a1, a2, a3, ⟨b1, b2, b3, b4, b5, b6⟩, a5, a6, a7, a8⟩ := r
  have fw := f w (Nat.le_refl _) (by omega) (by omega) (by omega) (by omega) (by omega) (by omega) (by omega)
  refine ⟨fun c hc => ?_, fun i hi => ?_, fun k hk j hj => ?_, ⟨?_, ?_, ?_, ?_, ?_, ?_⟩, fun i hi => ?_, fun i hi => ?_, t0, t1⟩
  · rw [f _ (by omega) (by omega) (by omega) (by omega) (by omega) (by omega) (by omega) (by omega), e _ (by omega)]; exact a1 c hc
  · rw [f _ (by omega) (by omega) (by omega) (by omega) (by omega) (by omega) (by omega) (by omega), e _ (by omega)]; exact a2 i hi
  · rw [f _ (by omega) (by omega) (by omega) (by omega) (by omega) (by omega) (by omega) (by omega), e _ (by omega)]; exact a3 k hk j hj
  · rw [fw, e _ (by omega)]; exact b1
  · rw [fw, e _ (by omega)]; exact b2
  · rw [fw, e _ (by omega)]; exact b3
  · rw [fw, e _ (by omega)]; exact b4
  · rw [fw, e _ (by omega)]; exact b5
  · rw [fw, e _ (by omega)]; exact b6
  · rw [f _ (by omega) (by omega) (by omega) (by omega) (by omega) (by omega) (by omega) (by omega), e _ (by omega)]; exact a5 i hi
  · rw [f _ (by omega) (by omega) (by omega) (by omega) (by omega) (by omega) (by omega) (by omega), e _ (by omega)]; exact a6 i hi
theorem zRT_0 {h : zH} {t : Nat} {ix : Int32 → Nat} : zRT (zup (zup h t 4 (nI 0)) t 3 (nI 0)) t ix [] := ⟨by rw [zup_o (by decide), zup_at]; rfl, by rw [zup_at]; rfl, by decide, fun j q hj => by cases hj⟩
section O84
variable (d : Nat) {h : zH}
theorem c81 {t : Nat} (ht : zTx t) {ix : Int32 → Nat} {T : List (Int32 × Int32)} (r : zRT h t ix T) : zCf zT znl (d + 1) 81 [.ref t] h = some (some (.int (if T = [] then nI 0 else nI 1)), zup (zup h t 4 (nI 0)) t 3 (nI 0)) := by
  have e := r.1
  by_cases q : T = []
  · rw [if_pos q] at e
    rw [if_pos q]
    simp only [e81, q81_0, q81_1, q81_4, q81_5, q81_6, q81_7, q81_10, q81_11, q81_12, q81_15, q81_16, gf_T4 ht, pf_T4_0 ht, pf_T3 ht, e, z01_0, zn1_0, if_true, if_false, ↓reduceIte, Option.bind_some, Option.toList_some, Option.toList_none, List.cons_append, List.nil_append, zB_go, zB_end, zB_no, zokv_i, zokv_r, zokv_n, eq_self]
  · rw [if_neg q] at e
    rw [if_neg q]
    simp only [e81, q81_0, q81_1, q81_4, q81_5, q81_6, q81_7, q81_10, q81_11, q81_12, q81_15, q81_16, gf_T4 ht, pf_T4_0 ht, pf_T3 ht, e, z01_1, zn1_0, if_true, if_false, ↓reduceIte, Option.bind_some, Option.toList_some, Option.toList_none, List.cons_append, List.nil_append, zB_go, zB_end, zB_no, zokv_i, zokv_r, zokv_n, eq_self]
theorem o20_s {u : Nat} (hu : u < 2) (R : Rel h) (cc : ∀ v H, zCf zT znl (d + 59) 81 [.ref (13 + 4 * u)] h = some (some (.int v), H) → (v = nI 0 ∨ v = nI 1) → zCf zT znl (d + 60) 20 [.ref 0, .int (nI u)] h = some (some (.int v), H)) : zOp (d + 60) 20 150 [.int (nI u)] h := by
  obtain ⟨⟨N, mk, z⟩, r, -⟩ := id R
  have t0 := z.1.2.2.2.2.2.1
  have t1 := z.1.2.2.2.2.2.2
  have ei : zwi (nI u) (nI 0) (nI 1) = nI 1 := zwi_in (by omega) (by decide)
  obtain ⟨n, hn, en⟩ : ∃ n, n ≤ 60 ∧ h 92 (154 + 125 * u) = nI n := by
    obtain rfl | rfl : u = 0 ∨ u = 1 := by omega
    · obtain ⟨n, a, b, -⟩ := t0; exact ⟨n, a, b⟩
    · obtain ⟨n, a, b, -⟩ := t1; exact ⟨n, a, b⟩
  have nil := ztx_nil en hn
  have ht : zTx (13 + 4 * u) := by
    obtain rfl | rfl : u = 0 ∨ u = 1 := by omega
    · exact zTx_W12 zW_1
    · exact zTx_W16 zW_1
  have c8 : zCf zT znl (d + 59) 81 [.ref (13 + 4 * u)] h = some (some (.int (if n = 0 then nI 0 else nI 1)), zup (zup h (13 + 4 * u) 4 (nI 0)) (13 + 4 * u) 3 (nI 0)) := by
    have k : (if ztx (h 92) u = [] then nI 0 else nI 1) = (if n = 0 then nI 0 else nI 1 : Int32) := by
      by_cases q : n = 0
      · rw [if_pos q, if_pos (nil.mpr q)]
      · rw [if_neg q, if_neg fun y => q (nil.mp y)]
    rw [← k]
    obtain rfl | rfl : u = 0 ∨ u = 1 := by omega
    · exact c81 (d + 58) ht r.2.2.2.2.2.2.1
    · exact c81 (d + 58) ht r.2.2.2.2.2.2.2
  have v01 : (if n = 0 then nI 0 else nI 1 : Int32) = nI 0 ∨ (if n = 0 then nI 0 else nI 1 : Int32) = nI 1 := by
    split
    · exact Or.inl rfl
    · exact Or.inr rfl
  obtain ⟨H, eH⟩ : ∃ H, zup (zup h (13 + 4 * u) 4 (nI 0)) (13 + 4 * u) 3 (nI 0) = H := ⟨_, rfl⟩
  have fH : ∀ a, a ≠ 13 + 4 * u → H a = h a := fun a ha => by rw [← eH, zup_row_ne ha, zup_row_ne ha]
  rw [eH] at c8
  have c21 := fun d => c121 d H hu hn (by rw [fH 92 (by omega)]; exact en)
  refine ⟨_, H, zup H 92 (154 + 125 * u) (nI 0), cc _ H c8 v01, ?_, ?_⟩
  · have la : (nI 154 + nI 125 * nI u) = nI (154 + 125 * u) := by rw [pk_mul, nI_add]
    by_cases q : n = 0
    · rw [if_pos q] at c21 ⊢
      simp only [e150, q150_0, q150_1, q150_2, q150_3, q150_6, q150_9, q150_10, q150_11, q150_14, q150_15, q150_16, q150_17, q150_20, q150_23, q150_24, q150_27, q150_28, q150_29, q150_30, q150_33, q150_36, q150_38, q150_39, q150_40, q150_41, q150_42, q150_43, q150_44, c107, ei, c21, gf_M0, la, ast_n92 (show 154 + 125 * u < 488 by omega), ce_1, ce_2, ce_3, ce_4, ce_5, ce_6, cm_1, cm_2, cm_3, cm_4, cm_5, cm_6, rc_L, rc_M, zn1_0, if_true, if_false, ↓reduceIte, Option.bind_some, Option.toList_some, Option.toList_none, List.cons_append, List.nil_append, zB_go, zB_end, zB_no, zokv_i, zokv_r, zokv_n, eq_self]
    · rw [if_neg q] at c21 ⊢
      simp only [e150, q150_0, q150_1, q150_2, q150_3, q150_6, q150_9, q150_10, q150_11, q150_14, q150_15, q150_16, q150_17, q150_20, q150_23, q150_24, q150_27, q150_28, q150_29, q150_30, q150_33, q150_36, q150_38, q150_39, q150_40, q150_41, q150_42, q150_43, q150_44, c107, ei, c21, gf_M0, la, ast_n92 (show 154 + 125 * u < 488 by omega), ce_1, ce_2, ce_3, ce_4, ce_5, ce_6, cm_1, cm_2, cm_3, cm_4, cm_5, cm_6, rc_L, rc_M, zn1_0, if_true, if_false, ↓reduceIte, Option.bind_some, Option.toList_some, Option.toList_none, List.cons_append, List.nil_append, zB_go, zB_end, zB_no, zokv_i, zokv_r, zokv_n, eq_self]
  · have e92 : zup H 92 (154 + 125 * u) (nI 0) 92 = zud (h 92) (154 + 125 * u) (nI 0) := by rw [zup_ud, fH 92 (by omega)]
    have lo : ∀ i, (i < 154 ∨ 404 ≤ i) → zud (h 92) (154 + 125 * u) (nI 0) i = h 92 i := fun i hi => zud_ne (by omega)
    obtain ⟨x0, x1, w0, w1⟩ : zTI zok0 (zud (h 92) (154 + 125 * u) (nI 0)) 0 ∧ zTI zok1 (zud (h 92) (154 + 125 * u) (nI 0)) 1 ∧ zRT H (1 + 12) zix0 (ztx (zud (h 92) (154 + 125 * u) (nI 0)) 0) ∧ zRT H (1 + 16) zix1 (ztx (zud (h 92) (154 + 125 * u) (nI 0)) 1) := by
      obtain rfl | rfl : u = 0 ∨ u = 1 := by omega
      · obtain ⟨y1, y2⟩ := zTI_al (s' := zud (h 92) (154 + 125 * 0) (nI 0)) (fun i h1 h2 => zud_ne (by omega)) (by decide) t1
        refine ⟨zTI_c0.2, y2, ?_, ?_⟩
        · rw [zTI_c0 (ok := zok0).1, ← eH]; exact zRT_0
        · rw [y1]; exact zRT_row (fH _ (by decide)) (fH _ (by decide)) (fH _ (by decide)) r.2.2.2.2.2.2.2
      · obtain ⟨y1, y2⟩ := zTI_al (s' := zud (h 92) (154 + 125 * 1) (nI 0)) (fun i h1 h2 => zud_ne (by omega)) (by decide) t0
        refine ⟨y2, zTI_c0.2, ?_, ?_⟩
        · rw [y1]; exact zRT_row (fH _ (by decide)) (fH _ (by decide)) (fH _ (by decide)) r.2.2.2.2.2.2.1
        · rw [zTI_c0 (ok := zok1).1, ← eH]; exact zRT_0
    refine Rel_row (N := N) (mk := mk) R (by rw [e92]; exact zI_ut z lo x0 x1) ?_ fun a ha => by rw [zup_row_ne (by omega), fH a (by omega)]
    rw [e92]
    exact zRW_keep (zRW_ut (h' := H) r lo (fun a h1 h2 h3 h4 _ _ _ _ => fH a (by omega)) w0 w1) fun a h1 h2 _ _ _ _ => zup_row_ne (by omega)
theorem o20 (R : Rel h) (x : Int32) : zOp (d + 60) 20 150 [.int x] h := by
  rcases zwi_c x 1 (by decide) with e | ⟨u, hu, rfl, e⟩
  · exact zOp_k 1 R (by simp only [e20, q20_0, q20_1, q20_2, q20_3, q20_6, q20_9, q20_10, q20_11, q20_14, c0, e, ce_1, ce_2, ce_3, ce_4, ce_5, ce_6, cm_1, cm_2, cm_3, cm_4, cm_5, cm_6, rc_L, rc_M, zn1_0, if_true, if_false, ↓reduceIte, Option.bind_some, Option.toList_some, Option.toList_none, List.cons_append, List.nil_append, zB_go, zB_end, zB_no, zokv_i, zokv_r, zokv_n, eq_self]) fun g hg => by simp only [e150, q150_0, q150_1, q150_2, q150_3, q150_6, q150_9, q150_10, q150_11, q150_14, c107, e, ce_1, ce_2, ce_3, ce_4, ce_5, ce_6, cm_1, cm_2, cm_3, cm_4, cm_5, cm_6, rc_L, rc_M, zn1_0, if_true, if_false, ↓reduceIte, Option.bind_some, Option.toList_some, Option.toList_none, List.cons_append, List.nil_append, zB_go, zB_end, zB_no, zokv_i, zokv_r, zokv_n, eq_self]
  obtain rfl | rfl : u = 0 ∨ u = 1 := by omega
  · refine o20_s d (by decide) R fun v H p hv => ?_
    have p' : zCf zT znl (d + 59) 81 [.ref (1 + 12)] h = some (some (.int v), H) := p
    rcases hv with rfl | rfl <;> simp only [e20, q20_0, q20_1, q20_2, q20_3, q20_6, q20_9, q20_10, q20_11, q20_14, q20_15, q20_16, q20_19, q20_20, q20_23, q20_26, q20_29, q20_30, q20_33, q20_34, c0, e, gf_L0, e60, q60_0, q60_1, q60_4, q60_5, q60_8, q60_11, q60_12, q60_15, gf_W3 zW_1, p', rc_W zW_1, rc_T (zTx_W12 zW_1), ce_1, ce_2, ce_3, ce_4, ce_5, ce_6, cm_1, cm_2, cm_3, cm_4, cm_5, cm_6, rc_L, rc_M, zn1_0, if_true, if_false, ↓reduceIte, Option.bind_some, Option.toList_some, Option.toList_none, List.cons_append, List.nil_append, zB_go, zB_end, zB_no, zokv_i, zokv_r, zokv_n, eq_self]
  · refine o20_s d (by decide) R fun v H p hv => ?_
    have p' : zCf zT znl (d + 59) 81 [.ref (1 + 16)] h = some (some (.int v), H) := p
    rcases hv with rfl | rfl <;> simp only [e20, q20_0, q20_1, q20_2, q20_3, q20_6, q20_9, q20_10, q20_11, q20_14, q20_15, q20_16, q20_19, q20_20, q20_23, q20_26, q20_29, q20_30, q20_33, q20_34, c0, e, gf_L0, e60, q60_0, q60_1, q60_4, q60_5, q60_8, q60_11, q60_12, q60_15, gf_W4 zW_1, p', rc_W zW_1, rc_T (zTx_W16 zW_1), ce_1, ce_2, ce_3, ce_4, ce_5, ce_6, cm_1, cm_2, cm_3, cm_4, cm_5, cm_6, rc_L, rc_M, zn1_0, if_true, if_false, ↓reduceIte, Option.bind_some, Option.toList_some, Option.toList_none, List.cons_append, List.nil_append, zB_go, zB_end, zB_no, zokv_i, zokv_r, zokv_n, eq_self]
/-- the row with bytes fed -/
def zfed (x : Int64) : Nat → Nat → Nat → (Nat → Int32) → Nat → Int32
  | 0, _, _, s => s
  | m + 1, k, t, s => zfed x m (k + 1) (t + 1) (zud (zud s (404 + t) (zmb8 x k)) 3 (nI (t + 1)))
theorem zIR_fed {s : Nat → Int32} {g : zH} {N mk t k : Nat} {x : Int64} (ht : t < 60) (hk : k < 8) (z : zI s N mk ∧ zRW 1 s g) : zI (zud (zud s (404 + t) (zmb8 x k)) 3 (nI (t + 1))) N mk ∧ zRW 1 (zud (zud s (404 + t) (zmb8 x k)) 3 (nI (t + 1))) (zup (zup g (1 + 22) t (zmb8 x k)) 1 13 (nI (t + 1))) := by
  obtain ⟨z, r⟩ := z
  have z1 : zI (zud s (404 + t) (zmb8 x k)) N mk := zI_w (zJ_udh (by omega) z.1) z (fun y => absurd y (by omega)) (fun y => absurd y (by omega)) (fun y => absurd y (by omega)) fun _ _ => zbyte_n hk
  have r1 : zRW 1 (zud s (404 + t) (zmb8 x k)) (zup g (1 + 22) t (zmb8 x k)) := zRW_ud (by unfold zloc; omega) z.1.2.2.2.2.2.1 z.1.2.2.2.2.2.2 r
  exact ⟨zI_w (zJ_udx (by omega) (by omega) z1.1) z1 (fun y => absurd y (by omega)) (fun _ => ⟨t + 1, by omega, rfl⟩) (fun y => absurd y (by omega)) (fun y => absurd y (by omega)), zRW_ud (by unfold zloc; omega) z1.1.2.2.2.2.2.1 z1.1.2.2.2.2.2.2 r1⟩
theorem w61 {x : Int64} {n N mk : Nat} (hn : n ≤ 8) : ∀ (m k t : Nat) (s : Nat → Int32) (h : zH), k + m = n → t + m ≤ 60 → h 1 13 = nI t → zI s N mk → zRW 1 s h → ∃ h', zXf zT znl d 61 3 [.ref 1, .long x, .null, .int (nI n), .int (nI k)] [] h = some (none, h') ∧ zI (zfed x m k t s) N mk ∧ zRW 1 (zfed x m k t s) h' ∧ h' 1 13 = nI (t + m) ∧ ∀ a, ¬ (1 ≤ a ∧ a < 25) → h' a = h a := by
  intro m
  induction m with
  | zero =>
    intro k t s h hk ht h13 z r
    have le : nI n ≤ nI k := by rw [show k = n by omega]; exact Int32.le_refl _
    refine ⟨h, ?_, z, r, h13, fun _ _ => rfl⟩
    rw [q61_3]
    simp only [q61_5, q61_6, q61_55, le, zn1_0, if_true, if_false, ↓reduceIte, Option.bind_some, Option.toList_some, Option.toList_none, List.cons_append, List.nil_append, zB_go, zB_end, zB_no, zokv_i, zokv_r, zokv_n, eq_self]
  | succ m ih =>
    intro k t s h hk ht h13 z r
    have le : ¬ nI n ≤ nI k := nI_ge (by omega) (by omega)
    have le2 : ¬ nI 60 ≤ nI t := nI_ge (by omega) (by decide)
    have k8 : k < 8 := by omega
    obtain ⟨z', r'⟩ := zIR_fed (x := x) (show t < 60 by omega) k8 ⟨z, r⟩
    obtain ⟨h', p1, p2, p3, p4, p5⟩ := ih (k + 1) (t + 1) _ (zup (zup h (1 + 22) t (zmb8 x k)) 1 13 (nI (t + 1))) (by omega) (by omega) zup_at z' r'
    refine ⟨h', ?_, p2, p3, by rw [p4]; congr 1; omega, fun a ha => by rw [p5 a ha, zup_row_ne (by omega), zup_row_ne (by omega)]⟩
    have eb : ((x.toUInt64 >>> ((nI (8 * k)).toInt64.toUInt64 &&& Int64.toUInt64 63)).toInt64).toInt32 &&& nI 255 = zmb8 x k := zbyte k8
    have n13 : ∀ v, zup h (1 + 22) t v 1 = h 1 := fun v => zup_row_ne (by decide)
    rw [← p1, q61_3]
    simp only [q61_5, q61_6, q61_9, q61_10, q61_13, q61_15, q61_18, q61_19, q61_22, q61_23, q61_26, q61_27, q61_29, q61_31, q61_32, q61_33, q61_34, q61_37, q61_38, q61_39, q61_40i, q61_40r, q61_41, q61_44, q61_45, q61_46, q61_49, q61_52, gf_W7 zW_1, gf_W13 zW_1, pf_W13 zW_1, h13, le, le2, pk_mul, eb, ast_W22 zW_1 (show t < 60 by omega), n13, nI_add, zn1_0, if_true, if_false, ↓reduceIte, Option.bind_some, Option.toList_some, Option.toList_none, List.cons_append, List.nil_append, zB_go, zB_end, zB_no, zokv_i, zokv_r, zokv_n, eq_self]
theorem w138 {x : Int64} {n N mk : Nat} (hn : n ≤ 8) : ∀ (m k t : Nat) (h : zH), k + m = n → t + m ≤ 60 → h 92 3 = nI t → ∃ h', zXf zT znl d 138 38 [.ref 91, .long x, .null, .int (nI n), .int (nI k)] [] h = some (some (.int (nI (t + m))), h') ∧ h' 92 = zfed x m k t (h 92) ∧ ∀ a, a ≠ 92 → h' a = h a := by
  intro m
  induction m with
  | zero =>
    intro k t h hk ht h3
    have le : nI n ≤ nI k := by rw [show k = n by omega]; exact Int32.le_refl _
    refine ⟨h, ?_, rfl, fun _ _ => rfl⟩
    rw [q138_38]
    simp only [q138_40, q138_41, q138_87, q138_88, q138_91, q138_92, q138_93, gf_M0, ald_n92 (show 3 < 488 by decide), h3, le, zn1_0, if_true, if_false, ↓reduceIte, Option.bind_some, Option.toList_some, Option.toList_none, List.cons_append, List.nil_append, zB_go, zB_end, zB_no, zokv_i, zokv_r, zokv_n, eq_self]
    rfl
  | succ m ih =>
    intro k t h hk ht h3
    have le : ¬ nI n ≤ nI k := nI_ge (by omega) (by omega)
    have n3 : ∀ v, zup h 92 (404 + t) v 92 3 = h 92 3 := fun v => zup_o (by omega)
    have e92 : zup (zup h 92 (404 + t) (zmb8 x k)) 92 3 (nI (t + 1)) 92 = zud (zud (h 92) (404 + t) (zmb8 x k)) 3 (nI (t + 1)) := by rw [zup_ud, zup_ud]
    obtain ⟨h', p1, p2, p3⟩ := ih (k + 1) (t + 1) (zup (zup h 92 (404 + t) (zmb8 x k)) 92 3 (nI (t + 1))) (by omega) (by omega) zup_at
    rw [e92] at p2
    refine ⟨h', ?_, p2, fun a ha => by rw [p3 a ha, zup_row_ne ha, zup_row_ne ha]⟩
    have eb : ((x >>> ((nI (8 * k)).toInt64 &&& 63)) &&& 255).toInt32 = zmb8 x k := rfl
    rw [show t + (m + 1) = t + 1 + m by omega, ← p1, q138_38]
    simp only [q138_40, q138_41, q138_44, q138_45, q138_48, q138_51, q138_52, q138_55, q138_56, q138_57, q138_58, q138_59, q138_61, q138_63, q138_64, q138_65, q138_68, q138_69, q138_70, q138_71, q138_72, q138_75, q138_76, q138_77, q138_78, q138_79, q138_80, q138_81, q138_84, gf_M0, ald_n92 (show 3 < 488 by decide), ast_n92 (show 3 < 488 by decide), ast_n92 (show 404 + t < 488 by omega), h3, n3, le, pk_mul, eb, nI_add, zn1_0, if_true, if_false, ↓reduceIte, Option.bind_some, Option.toList_some, Option.toList_none, List.cons_append, List.nil_append, zB_go, zB_end, zB_no, zokv_i, zokv_r, zokv_n, eq_self]
theorem o18 (R : Rel h) (x : Int64) (y : Int32) : zOp (d + 60) 18 138 [.long x, .int y] h := by
  obtain ⟨⟨N, mk, z⟩, r, -⟩ := id R
  obtain ⟨t, ht, e3⟩ := z.2.2.1
  have h13 : h 1 13 = nI t := r.2.2.2.1.2.2.2.2.1.trans e3
  rcases zwi_c1 y 8 (by decide) with f | ⟨n, n1, n2, rfl, f⟩
  · exact zOp_k 1 R (by simp only [e18, q18_0, q18_1, q18_2, q18_4, q18_7, q18_10, q18_11, q18_12, q18_15, c0, f, ce_1, ce_2, ce_3, ce_4, ce_5, ce_6, cm_1, cm_2, cm_3, cm_4, cm_5, cm_6, rc_L, rc_M, zn1_0, if_true, if_false, ↓reduceIte, Option.bind_some, Option.toList_some, Option.toList_none, List.cons_append, List.nil_append, zB_go, zB_end, zB_no, zokv_i, zokv_r, zokv_n, eq_self]) fun g hg => by simp only [e138, q138_0, q138_1, q138_2, q138_4, q138_7, q138_10, q138_11, q138_12, q138_15, c107, f, ce_1, ce_2, ce_3, ce_4, ce_5, ce_6, cm_1, cm_2, cm_3, cm_4, cm_5, cm_6, rc_L, rc_M, zn1_0, if_true, if_false, ↓reduceIte, Option.bind_some, Option.toList_some, Option.toList_none, List.cons_append, List.nil_append, zB_go, zB_end, zB_no, zokv_i, zokv_r, zokv_n, eq_self]
  by_cases q : t + n ≤ 60
  · have le : nI (t + n) ≤ nI 60 := nI_le q (by decide)
    obtain ⟨h1, p1, p2, p3, p4, p5⟩ := w61 (d + 58) (x := x) n2 n 0 t (h 92) h (by omega) q h13 z r
    have k92 : h1 92 = h 92 := p5 92 (by omega)
    obtain ⟨h2, q1, q2, q3⟩ := w138 (d + 59) (x := x) (N := N) (mk := mk) n2 n 0 t h1 (by omega) q (by rw [k92]; exact e3)
    rw [k92] at q2
    refine ⟨nI (t + n), h1, h2, ?_, ?_, zRow_week R p2 p3 p5 q2 fun a ha _ _ _ => q3 a ha⟩
    · have c61 : zCf zT znl (d + 59) 61 [.ref 1, .long x, .int (nI n)] h = some (none, h1) := by
        rw [← p1]
        simp only [e61, q61_0, q61_1, Option.bind_some, Option.toList_some, Option.toList_none, List.cons_append, List.nil_append, zB_go, zB_end, zB_no, zokv_i, zokv_r, zokv_n, eq_self]
      simp only [e18, q18_0, q18_1, q18_2, q18_4, q18_7, q18_16, q18_17, q18_20, q18_23, q18_24, q18_25, q18_27, q18_36, q18_37, q18_40, q18_41, q18_42, q18_45, q18_46, q18_49, q18_52, c0, f, gf_L0, gf_W13 zW_1, h13, nI_add, le, c61, p4, rc_W zW_1, ce_1, ce_2, ce_3, ce_4, ce_5, ce_6, cm_1, cm_2, cm_3, cm_4, cm_5, cm_6, rc_L, rc_M, zn1_0, if_true, if_false, ↓reduceIte, Option.bind_some, Option.toList_some, Option.toList_none, List.cons_append, List.nil_append, zB_go, zB_end, zB_no, zokv_i, zokv_r, zokv_n, eq_self]
    · rw [← q1]
      simp only [e138, q138_0, q138_1, q138_2, q138_4, q138_7, q138_16, q138_17, q138_20, q138_21, q138_22, q138_23, q138_24, q138_26, q138_35, q138_36, c107, f, gf_M0, ald_n92 (show 3 < 488 by decide), k92, e3, nI_add, le, ce_1, ce_2, ce_3, ce_4, ce_5, ce_6, cm_1, cm_2, cm_3, cm_4, cm_5, cm_6, rc_L, rc_M, zn1_0, if_true, if_false, ↓reduceIte, Option.bind_some, Option.toList_some, Option.toList_none, List.cons_append, List.nil_append, zB_go, zB_end, zB_no, zokv_i, zokv_r, zokv_n, eq_self]
  · have le : ¬ nI (t + n) ≤ nI 60 := nI_ge (by omega) (by omega)
    exact zOp_k 4 R (by simp only [e18, q18_0, q18_1, q18_2, q18_4, q18_7, q18_16, q18_17, q18_20, q18_23, q18_24, q18_25, q18_27, q18_30, q18_31, q18_32, q18_35, c0, f, gf_L0, gf_W13 zW_1, h13, nI_add, le, ce_1, ce_2, ce_3, ce_4, ce_5, ce_6, cm_1, cm_2, cm_3, cm_4, cm_5, cm_6, rc_L, rc_M, zn1_0, if_true, if_false, ↓reduceIte, Option.bind_some, Option.toList_some, Option.toList_none, List.cons_append, List.nil_append, zB_go, zB_end, zB_no, zokv_i, zokv_r, zokv_n, eq_self]) fun g hg => by simp only [e138, q138_0, q138_1, q138_2, q138_4, q138_7, q138_16, q138_17, q138_20, q138_21, q138_22, q138_23, q138_24, q138_26, q138_29, q138_30, q138_31, q138_34, c107, f, gf_M0, ald_n92 (show 3 < 488 by decide), hg 92 (by decide), e3, nI_add, le, ce_1, ce_2, ce_3, ce_4, ce_5, ce_6, cm_1, cm_2, cm_3, cm_4, cm_5, cm_6, rc_L, rc_M, zn1_0, if_true, if_false, ↓reduceIte, Option.bind_some, Option.toList_some, Option.toList_none, List.cons_append, List.nil_append, zB_go, zB_end, zB_no, zokv_i, zokv_r, zokv_n, eq_self]
end O84
