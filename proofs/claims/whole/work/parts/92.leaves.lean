/-! ===== the readers: leaves ===== -/
theorem zapp_get {L : List (Int32 × Int32)} {e q : Int32 × Int32} {j : Nat} (h : (L ++ [e])[j]? = some q) : L[j]? = some q ∨ (j = L.length ∧ q = e) := by
  rcases Nat.lt_trichotomy j L.length with y | y | y
  · rw [List.getElem?_append_left y] at h; exact Or.inl h
  · subst y
    rw [List.getElem?_append_right (Nat.le_refl _), Nat.sub_self] at h
    injection h with h
    exact Or.inr ⟨rfl, h.symm⟩
  · rw [List.getElem?_append_right (by omega), List.getElem?_eq_none (by show 1 ≤ _; omega)] at h
    cases h
theorem zget_lt {L : List (Int32 × Int32)} {q : Int32 × Int32} {j : Nat} (h : L[j]? = some q) : j < L.length := (List.getElem?_eq_some_iff.mp h).1
def zin (bs : List Int32) (b : Nat) : Bool := decide (zpos bs (nI b) ≠ -1)
def sgl : Nat → List Int32
  | 0 => [124]
  | 1 => [38]
  | 2 => [60, 61, 62]
  | 3 => [43, 45]
  | _ => [42, 47, 37]
def nms : Nat → List Int32
  | 0 => [102, 118, 104, 103, 119]
  | _ => [115, 104, 103]
theorem zin_0 : ∀ b, b < 256 → (zin (sgl 0) b = decide (b = 124)) := by decide +kernel
theorem zin_1 : ∀ b, b < 256 → (zin (sgl 1) b = decide (b = 38)) := by decide +kernel
theorem zin_2 : ∀ b, b < 256 → (zin (sgl 2) b = decide (b = 60 ∨ b = 61 ∨ b = 62)) := by decide +kernel
theorem zin_3 : ∀ b, b < 256 → (zin (sgl 3) b = decide (b = 43 ∨ b = 45)) := by decide +kernel
theorem zin_4 : ∀ b, b < 256 → (zin (sgl 4) b = decide (b = 42 ∨ b = 47 ∨ b = 37)) := by decide +kernel
theorem zin_n0 : ∀ b, b < 256 → (zin (nms 0) b = decide (b = 104 ∨ b = 103 ∨ b = 102 ∨ b = 118 ∨ b = 119)) := by decide +kernel
theorem zin_n1 : ∀ b, b < 256 → (zin (nms 1) b = decide (b = 104 ∨ b = 103 ∨ b = 115)) := by decide +kernel
theorem zin_p : ∀ b, b < 256 → (zin [41] b = decide (b = 41)) := by decide +kernel
theorem zasc_0 : zasc (sgl 0) := by
  intro i hi
  have : i = 0 := by have : (sgl 0).length = 1 := rfl
                     omega
  subst this; exact ⟨124, by decide, rfl⟩
theorem zasc_1 : zasc (sgl 1) := by
  intro i hi
  have : i = 0 := by have : (sgl 1).length = 1 := rfl
                     omega
  subst this; exact ⟨38, by decide, rfl⟩
theorem zasc_2 : zasc (sgl 2) := by
  intro i hi
  have : i = 0 ∨ i = 1 ∨ i = 2 := by have : (sgl 2).length = 3 := rfl
                                     omega
  rcases this with rfl | rfl | rfl
  · exact ⟨60, by decide, rfl⟩
  · exact ⟨61, by decide, rfl⟩
  · exact ⟨62, by decide, rfl⟩
theorem zasc_3 : zasc (sgl 3) := by
  intro i hi
  have : i = 0 ∨ i = 1 := by have : (sgl 3).length = 2 := rfl
                             omega
  rcases this with rfl | rfl
  · exact ⟨43, by decide, rfl⟩
  · exact ⟨45, by decide, rfl⟩
theorem zasc_4 : zasc (sgl 4) := by
  intro i hi
  have : i = 0 ∨ i = 1 ∨ i = 2 := by have : (sgl 4).length = 3 := rfl
                                     omega
  rcases this with rfl | rfl | rfl
  · exact ⟨42, by decide, rfl⟩
  · exact ⟨47, by decide, rfl⟩
  · exact ⟨37, by decide, rfl⟩
theorem zasc_p : zasc [41] := by
  intro i hi
  have : i = 0 := by have : ([41] : List Int32).length = 1 := rfl
                     omega
  subst this; exact ⟨41, by decide, rfl⟩
theorem zasc_n0 : zasc (nms 0) := by
  intro i hi
  have : i = 0 ∨ i = 1 ∨ i = 2 ∨ i = 3 ∨ i = 4 := by have : (nms 0).length = 5 := rfl
                                                     omega
  rcases this with rfl | rfl | rfl | rfl | rfl
  · exact ⟨102, by decide, rfl⟩
  · exact ⟨118, by decide, rfl⟩
  · exact ⟨104, by decide, rfl⟩
  · exact ⟨103, by decide, rfl⟩
  · exact ⟨119, by decide, rfl⟩
theorem zasc_n1 : zasc (nms 1) := by
  intro i hi
  have : i = 0 ∨ i = 1 ∨ i = 2 := by have : (nms 1).length = 3 := rfl
                                     omega
  rcases this with rfl | rfl | rfl
  · exact ⟨115, by decide, rfl⟩
  · exact ⟨104, by decide, rfl⟩
  · exact ⟨103, by decide, rfl⟩
/-- a text's bytes -/
def ztxt (s : Nat) (bs : List Int32) : Prop := (∃ b, zsh s = (5, b, [], []) ∧ zsh b = (4, 0, [], bs)) ∧ bs.length < 100 ∧ 0 < bs.length ∧ zasc bs
theorem ztxt_s : ∀ l, l < 5 → ztxt (322 + 2 * l) (sgl l) := by
  intro l hl
  obtain rfl | rfl | rfl | rfl | rfl : l = 0 ∨ l = 1 ∨ l = 2 ∨ l = 3 ∨ l = 4 := by omega
  · exact ⟨⟨323, rfl, rfl⟩, by decide, by decide, zasc_0⟩
  · exact ⟨⟨325, rfl, rfl⟩, by decide, by decide, zasc_1⟩
  · exact ⟨⟨327, rfl, rfl⟩, by decide, by decide, zasc_2⟩
  · exact ⟨⟨329, rfl, rfl⟩, by decide, by decide, zasc_3⟩
  · exact ⟨⟨331, rfl, rfl⟩, by decide, by decide, zasc_4⟩
theorem ztxt_n : ∀ u, u < 2 → ztxt (314 + 4 * u) (nms u) := by
  intro u hu
  obtain rfl | rfl : u = 0 ∨ u = 1 := by omega
  · exact ⟨⟨315, rfl, rfl⟩, by decide, by decide, zasc_n0⟩
  · exact ⟨⟨319, rfl, rfl⟩, by decide, by decide, zasc_n1⟩
theorem ztxt_p : ztxt 320 [41] := ⟨⟨321, rfl, rfl⟩, by decide, by decide, zasc_p⟩
def zRd (T u p : Nat) (f : Int32) (h : zH) : Prop := h 73 1 = nI 23 ∧ h 73 2 = nI T ∧ h 73 3 = nI p ∧ h 73 4 = f ∧ h 73 5 = nI (314 + 4 * u)
def zTp (tp : Nat → Nat) (h : zH) : Prop := ∀ i, i < 60 → h 23 i = nI (tp i)
def zMs (tp : Nat → Nat) (T u p o : Nat) (L : List (Int32 × Int32)) (g : zH) : Prop := g 91 5 = nI p ∧ g 91 6 = nI o ∧ g 91 7 = nI L.length ∧ g 91 8 = nI u ∧ g 92 3 = nI T ∧ (∀ i, i < 60 → g 92 (404 + i) = nI (tp i)) ∧ ∀ j q, L[j]? = some q → g 96 (2 * j) = q.1 ∧ g 96 (2 * j + 1) = q.2
def zMfr (g g' : zH) : Prop := (∀ a, a ≠ 91 → a ≠ 96 → g' a = g a) ∧ ∀ j, j ≠ 5 → j ≠ 6 → j ≠ 7 → g' 91 j = g 91 j
theorem zMfr_refl (g : zH) : zMfr g g := ⟨fun _ _ _ => rfl, fun _ _ _ _ => rfl⟩
theorem zMfr_trans {a b c : zH} (x : zMfr a b) (y : zMfr b c) : zMfr a c := ⟨fun i h1 h2 => (y.1 i h1 h2).trans (x.1 i h1 h2), fun j h1 h2 h3 => (y.2 j h1 h2 h3).trans (x.2 j h1 h2 h3)⟩
theorem zMs_at {tp : Nat → Nat} {T u p o q : Nat} {L : List (Int32 × Int32)} {g : zH} (s : zMs tp T u p o L g) : zMs tp T u q o L (zup g 91 5 (nI q)) ∧ zMfr g (zup g 91 5 (nI q)) := by
  obtain ⟨a, b, c, e, f, i, j⟩ := s
  exact ⟨⟨zup_at, by rw [zup_o (by decide)]; exact b, by rw [zup_o (by decide)]; exact c, by rw [zup_o (by decide)]; exact e, by rw [zup_row_ne (by decide)]; exact f, by rw [zup_row_ne (by decide)]; exact i, by rw [zup_row_ne (by decide)]; exact j⟩, fun x h1 h2 => zup_row_ne h1, fun x h1 _ _ => zup_o h1⟩
theorem zMs_op {tp : Nat → Nat} {T u p o q : Nat} {L : List (Int32 × Int32)} {g : zH} (s : zMs tp T u p o L g) : zMs tp T u p q L (zup g 91 6 (nI q)) ∧ zMfr g (zup g 91 6 (nI q)) := by
  obtain ⟨a, b, c, e, f, i, j⟩ := s
  exact ⟨⟨by rw [zup_o (by decide)]; exact a, zup_at, by rw [zup_o (by decide)]; exact c, by rw [zup_o (by decide)]; exact e, by rw [zup_row_ne (by decide)]; exact f, by rw [zup_row_ne (by decide)]; exact i, by rw [zup_row_ne (by decide)]; exact j⟩, fun x h1 h2 => zup_row_ne h1, fun x _ h1 _ => zup_o h1⟩
section O92
variable (d : Nat) {h : zH} {tp : Nat → Nat} {T u p : Nat}
theorem ald_23 {i nx : Nat} {lo : zL} {st : List Value} {h : zH} (hi : i < 60) : oIald nx lo (.int (nI i) :: .ref 23 :: st) h = zgo nx lo (.int (h 23 i) :: st) h := ald_W22 zW_1 hi
theorem n0m1 : ¬ nI 0 ≤ (-1 : Int32) := by decide
theorem lt_m1 : (-1 : Int32) < nI 0 := by decide
theorem c85_b (r : zRd T u p (-1) h) (t : zTp tp h) (hp : p < T) (hT : T ≤ 60) : zCf zT znl (d + 1) 85 [.ref 73] h = some (some (.int (nI (tp p))), h) := by
  have le : ¬ nI T ≤ nI p := nI_ge hp (by omega)
  have e23 : (nI 23).toNatClampNeg = 23 := nI_clamp (by decide)
  simp only [e85, q85_0, q85_1, q85_4, q85_7, q85_8, q85_11, q85_12, q85_15, q85_18, q85_19, q85_22, q85_23, q85_26, q85_27, q85_30, q85_31, gf_R1, gf_R2, gf_R3, gf_R4, r.1, r.2.1, r.2.2.1, r.2.2.2.1, n0m1, le, e23, ald_23 (show p < 60 by omega), t p (by omega), zn1_0, if_true, if_false, ↓reduceIte, Option.bind_some, Option.toList_some, Option.toList_none, List.cons_append, List.nil_append, zB_go, zB_end, zB_no, zokv_i, zokv_r, zokv_n, eq_self]
theorem c85_e (r : zRd T u p (-1) h) (hp : T ≤ p) (h2 : p < 1000) : zCf zT znl (d + 1) 85 [.ref 73] h = some (some (.int (-1)), h) := by
  have le : nI T ≤ nI p := nI_le hp (by omega)
  simp only [e85, q85_0, q85_1, q85_4, q85_7, q85_8, q85_11, q85_12, q85_15, q85_18, q85_19, q85_22, q85_23, q85_26, q85_27, q85_30, q85_31, gf_R2, gf_R3, gf_R4, r.2.1, r.2.2.1, r.2.2.2.1, n0m1, le, zn1_0, if_true, if_false, ↓reduceIte, Option.bind_some, Option.toList_some, Option.toList_none, List.cons_append, List.nil_append, zB_go, zB_end, zB_no, zokv_i, zokv_r, zokv_n, eq_self]
theorem c85_f {q : Nat} (hq : q < 1000) (r : h 73 4 = nI q) : zCf zT znl (d + 1) 85 [.ref 73] h = some (some (.int (-1)), h) := by
  simp only [e85, q85_0, q85_1, q85_4, q85_7, q85_8, q85_11, q85_12, q85_15, q85_18, q85_19, q85_22, q85_23, q85_26, q85_27, q85_30, q85_31, gf_R4, r, nI_ge0 hq, zn1_0, if_true, if_false, ↓reduceIte, Option.bind_some, Option.toList_some, Option.toList_none, List.cons_append, List.nil_append, zB_go, zB_end, zB_no, zokv_i, zokv_r, zokv_n, eq_self]
theorem c86_n {s : Nat} (n : ∀ d, zCf zT znl (d + 1) 85 [.ref 73] h = some (some (.int (-1)), h)) : zCf zT znl (d + 8) 86 [.ref 73, .ref s] h = some (some (.int (nI 0)), h) := by
  simp only [e86, q86_0, q86_1, q86_4, q86_5, q86_6, q86_22, q86_23, n, lt_m1, rc_R, z01_0, zn1_0, if_true, if_false, ↓reduceIte, Option.bind_some, Option.toList_some, Option.toList_none, List.cons_append, List.nil_append, zB_go, zB_end, zB_no, zokv_i, zokv_r, zokv_n, eq_self]
theorem c86_b {s b : Nat} {bs : List Int32} (hs : ztxt s bs) (hb : b < 256) (n : ∀ d, zCf zT znl (d + 1) 85 [.ref 73] h = some (some (.int (nI b)), h)) : zCf zT znl (d + 8) 86 [.ref 73, .ref s] h = some (some (.int (if zin bs b = true then nI 1 else nI 0)), h) := by
  obtain ⟨⟨b', x1, x2⟩, x3, x4, x5⟩ := hs
  have c := fun d => c211 d h x1 x2 x3 x4 hb x5
  have rcs : ∀ as, (zrc 99 (.ref s :: as) = true) = True := fun as => eq_true (by
    show ((zsh s).1 == 5) = true
    rw [x1]; rfl)
  have nb : ¬ nI b < nI 0 := nI_nlt (Nat.zero_le _) (by omega)
  rcases zpos_v (bs := bs) (c := nI b) bs.length 0 with ⟨e, -⟩ | ⟨j, -, hj, e, -⟩
  · have e' : zpos bs (nI b) = -1 := e
    have zi : zin bs b = false := by unfold zin; rw [e']; rfl
    rw [zi]
    simp only [e86, q86_0, q86_1, q86_4, q86_5, q86_6, q86_9, q86_10, q86_11, q86_12, q86_15, q86_18, q86_19, q86_22, q86_23, n, nb, zchar hb, c, e', lt_m1, rc_R, rcs, z01_0, Bool.false_eq_true, zn1_0, if_true, if_false, ↓reduceIte, Option.bind_some, Option.toList_some, Option.toList_none, List.cons_append, List.nil_append, zB_go, zB_end, zB_no, zokv_i, zokv_r, zokv_n, eq_self]
  · have e' : zpos bs (nI b) = nI j := e
    have zi : zin bs b = true := by unfold zin; rw [e']; exact decide_eq_true (zni_m1 (by omega))
    have nj : ¬ nI j < nI 0 := nI_nlt (Nat.zero_le _) (by omega)
    rw [zi]
    simp only [e86, q86_0, q86_1, q86_4, q86_5, q86_6, q86_9, q86_10, q86_11, q86_12, q86_15, q86_18, q86_19, q86_22, q86_23, n, nb, zchar hb, c, e', nj, rc_R, rcs, z01_1, zn1_0, if_true, if_false, ↓reduceIte, Option.bind_some, Option.toList_some, Option.toList_none, List.cons_append, List.nil_append, zB_go, zB_end, zB_no, zokv_i, zokv_r, zokv_n, eq_self]
theorem c84 {l : Nat} (hl : l < 5) (h : zH) : zCf zT znl (d + 1) 84 [.int (nI l)] h = some (some (.ref (322 + 2 * l)), h) := by
  obtain rfl | rfl | rfl | rfl | rfl : l = 0 ∨ l = 1 ∨ l = 2 ∨ l = 3 ∨ l = 4 := by omega
  all_goals simp (decide := true) only [e84, q84_0, q84_1, q84_32, q84_34, q84_35, q84_37, q84_38, q84_40, q84_41, q84_43, q84_44, q84_46, zn1_0, if_true, if_false, ↓reduceIte, Option.bind_some, Option.toList_some, Option.toList_none, List.cons_append, List.nil_append, zB_go, zB_end, zB_no, zokv_i, zokv_r, zokv_n, eq_self]
theorem c88_f {q : Nat} (hq : q < 1000) (r : h 73 4 = nI q) : zCf zT znl (d + 1) 88 [.ref 73] h = some (none, h) := by
  simp only [e88, q88_0, q88_1, q88_4, q88_7, q88_8, q88_9, q88_12, q88_15, gf_R4, r, nI_ge0 hq, zn1_0, if_true, if_false, ↓reduceIte, Option.bind_some, Option.toList_some, Option.toList_none, List.cons_append, List.nil_append, zB_go, zB_end, zB_no, zokv_i, zokv_r, zokv_n, eq_self]
theorem c88 (r : zRd T u p (-1) h) : zCf zT znl (d + 1) 88 [.ref 73] h = some (none, zup h 73 4 (nI p)) := by
  simp only [e88, q88_0, q88_1, q88_4, q88_7, q88_8, q88_9, q88_12, q88_15, gf_R3, gf_R4, pf_R4, r.2.2.1, r.2.2.2.1, n0m1, zn1_0, if_true, if_false, ↓reduceIte, Option.bind_some, Option.toList_some, Option.toList_none, List.cons_append, List.nil_append, zB_go, zB_end, zB_no, zokv_i, zokv_r, zokv_n, eq_self]
def zenc (ix : Int32 → Nat) (e : Int32 × Int32) (sg op : Int32) : Prop := (e.1 = nI 0 → sg = nI 110 ∧ op = e.2) ∧ (e.1 = nI 1 → sg = nI 97 ∧ op = nI (ix e.2)) ∧ (e.1 = nI 2 → sg = nI 33) ∧ (e.1 = nI 3 → sg = e.2)
theorem c79 {ix : Int32 → Nat} {L : List (Int32 × Int32)} {e : Int32 × Int32} {sg op : Int32} (c : zct2 h 74 ix L) (hl : L.length < 60) (en : zenc ix e sg op) : ∃ h', zCf zT znl (d + 1) 79 [.ref 74, .int sg, .int op] h = some (none, h') ∧ zct2 h' 74 ix (L ++ [e]) ∧ h' 74 4 = h 74 4 ∧ ∀ a, a ≠ 74 → a ≠ 75 → a ≠ 76 → h' a = h a := by
  obtain ⟨c1, c2, c3⟩ := c
  have le : ¬ nI 60 ≤ nI L.length := nI_ge hl (by decide)
  have n1 : ∀ (g : zH) v, zup g (74 + 1) L.length v 74 = g 74 := fun g v => zup_row_ne (by decide)
  have n2 : ∀ (g : zH) v, zup g (74 + 2) L.length v 74 = g 74 := fun g v => zup_row_ne (by decide)
  refine ⟨zup (zup (zup h (74 + 1) L.length sg) (74 + 2) L.length op) 74 3 (nI (L.length + 1)), ?_, ⟨?_, ?_, fun j q hj => ?_⟩, ?_, fun a q1 q2 q3 => ?_⟩
  · simp only [e79, q79_0, q79_1, q79_4, q79_6, q79_9, q79_10, q79_13, q79_14, q79_17, q79_18, q79_19, q79_20, q79_23, q79_24, q79_27, q79_28, q79_29, q79_30i, q79_30r, q79_31, q79_34, q79_35, q79_36, q79_39, gf_T0 zTx_74, gf_T1 zTx_74, gf_T3 zTx_74, pf_T3 zTx_74, c1, le, n1, n2, ast_T1 zTx_74 hl, ast_T2 zTx_74 hl, nI_add, zn1_0, if_true, if_false, ↓reduceIte, Option.bind_some, Option.toList_some, Option.toList_none, List.cons_append, List.nil_append, zB_go, zB_end, zB_no, zokv_i, zokv_r, zokv_n, eq_self]
  · rw [zup_at, List.length_append]; rfl
  · rw [List.length_append]; show L.length + 1 ≤ 60; omega
  · have r1 : ∀ v, zup (zup (zup h (74 + 1) L.length sg) (74 + 2) L.length op) 74 3 v (74 + 1) = zup h (74 + 1) L.length sg (74 + 1) := fun v => by rw [zup_row_ne (by decide), zup_row_ne (by decide)]
    have r2 : ∀ v, zup (zup (zup h (74 + 1) L.length sg) (74 + 2) L.length op) 74 3 v (74 + 2) = zup (zup h (74 + 1) L.length sg) (74 + 2) L.length op (74 + 2) := fun v => by rw [zup_row_ne (by decide)]
    rw [r1, r2]
    rcases zapp_get hj with y | ⟨rfl, rfl⟩
    · have lt := zget_lt y
      rw [zup_o (by omega), zup_o (by omega), zup_row_ne (by decide)]
      exact c3 j q y
    · rw [zup_at, zup_at]
      exact en
  · rw [zup_o (by decide), n2, n1]
  · rw [zup_row_ne q1, zup_row_ne q3, zup_row_ne q2]
theorem c79_f {sg op : Int32} {n : Nat} (hn : n ≤ 60) (c1 : h 74 3 = nI n) : ∃ h' n', zCf zT znl (d + 1) 79 [.ref 74, .int sg, .int op] h = some (none, h') ∧ n' ≤ 60 ∧ h' 74 3 = nI n' ∧ h' 74 4 = h 74 4 ∧ ∀ a, a ≠ 74 → a ≠ 75 → a ≠ 76 → h' a = h a := by
  by_cases q : n = 60
  · subst q
    have le : nI 60 ≤ nI 60 := Int32.le_refl _
    refine ⟨h, 60, ?_, Nat.le_refl _, c1, rfl, fun _ _ _ _ => rfl⟩
    simp only [e79, q79_0, q79_1, q79_4, q79_6, q79_9, q79_10, q79_13, q79_14, q79_17, q79_18, q79_19, q79_20, q79_23, q79_24, q79_27, q79_28, q79_29, q79_30i, q79_30r, q79_31, q79_34, q79_35, q79_36, q79_39, gf_T3 zTx_74, c1, le, zn1_0, if_true, if_false, ↓reduceIte, Option.bind_some, Option.toList_some, Option.toList_none, List.cons_append, List.nil_append, zB_go, zB_end, zB_no, zokv_i, zokv_r, zokv_n, eq_self]
  · have hl : n < 60 := by omega
    have le : ¬ nI 60 ≤ nI n := nI_ge hl (by decide)
    have n1 : ∀ (g : zH) v, zup g (74 + 1) n v 74 = g 74 := fun g v => zup_row_ne (by decide)
    have n2 : ∀ (g : zH) v, zup g (74 + 2) n v 74 = g 74 := fun g v => zup_row_ne (by decide)
    refine ⟨zup (zup (zup h (74 + 1) n sg) (74 + 2) n op) 74 3 (nI (n + 1)), n + 1, ?_, by omega, zup_at, by rw [zup_o (by decide), n2, n1], fun a q1 q2 q3 => by rw [zup_row_ne q1, zup_row_ne q3, zup_row_ne q2]⟩
    simp only [e79, q79_0, q79_1, q79_4, q79_6, q79_9, q79_10, q79_13, q79_14, q79_17, q79_18, q79_19, q79_20, q79_23, q79_24, q79_27, q79_28, q79_29, q79_30i, q79_30r, q79_31, q79_34, q79_35, q79_36, q79_39, gf_T0 zTx_74, gf_T1 zTx_74, gf_T3 zTx_74, pf_T3 zTx_74, c1, le, n1, n2, ast_T1 zTx_74 hl, ast_T2 zTx_74 hl, nI_add, zn1_0, if_true, if_false, ↓reduceIte, Option.bind_some, Option.toList_some, Option.toList_none, List.cons_append, List.nil_append, zB_go, zB_end, zB_no, zokv_i, zokv_r, zokv_n, eq_self]
theorem c139_b {o : Nat} {L : List (Int32 × Int32)} {g : zH} (s : zMs tp T u p o L g) (hp : p < T) (hT : T ≤ 60) : zCf zT znl (d + 1) 139 [.ref 91] g = some (some (.int (nI (tp p))), g) := by
  obtain ⟨a, b, c, e, f, i, j⟩ := s
  have le : ¬ nI T ≤ nI p := nI_ge hp (by omega)
  simp only [e139, q139_0, q139_1, q139_4, q139_5, q139_8, q139_9, q139_10, q139_13, q139_14, q139_17, q139_20, q139_21, q139_24, q139_25, q139_26, q139_29, q139_30, gf_M0, gf_M5, a, f, ald_n92 (show 3 < 488 by decide), le, nI_add, ald_n92 (show 404 + p < 488 by omega), i p (by omega), zn1_0, if_true, if_false, ↓reduceIte, Option.bind_some, Option.toList_some, Option.toList_none, List.cons_append, List.nil_append, zB_go, zB_end, zB_no, zokv_i, zokv_r, zokv_n, eq_self]
theorem c139_e {o : Nat} {L : List (Int32 × Int32)} {g : zH} (s : zMs tp T u p o L g) (hp : T ≤ p) (h2 : p < 1000) : zCf zT znl (d + 1) 139 [.ref 91] g = some (some (.int (-1)), g) := by
  obtain ⟨a, b, c, e, f, i, j⟩ := s
  have le : nI T ≤ nI p := nI_le hp (by omega)
  simp only [e139, q139_0, q139_1, q139_4, q139_5, q139_8, q139_9, q139_10, q139_13, q139_14, q139_17, q139_20, q139_21, q139_24, q139_25, q139_26, q139_29, q139_30, gf_M0, gf_M5, a, f, ald_n92 (show 3 < 488 by decide), le, zn1_0, if_true, if_false, ↓reduceIte, Option.bind_some, Option.toList_some, Option.toList_none, List.cons_append, List.nil_append, zB_go, zB_end, zB_no, zokv_i, zokv_r, zokv_n, eq_self]
theorem c141 {o : Nat} {L : List (Int32 × Int32)} {g : zH} {w v : Int32} (s : zMs tp T u p o L g) (hl : L.length < 62) : ∃ g', zCf zT znl (d + 1) 141 [.ref 91, .int w, .int v] g = some (none, g') ∧ zMs tp T u p o (L ++ [(w, v)]) g' ∧ zMfr g g' := by
  obtain ⟨a, b, c, e, f, i, j⟩ := s
  have n1 : ∀ (g : zH) k v, zup g 96 k v 91 = g 91 := fun g k v => zup_row_ne (by decide)
  refine ⟨zup (zup (zup g 96 (2 * L.length) w) 96 (2 * L.length + 1) v) 91 7 (nI (L.length + 1)), ?_, ⟨?_, ?_, ?_, ?_, ?_, ?_, fun k q hk => ?_⟩, fun x q1 q2 => by rw [zup_row_ne q1, zup_row_ne q2, zup_row_ne q2], fun x _ _ q3 => by rw [zup_o q3, n1, n1]⟩
  · simp only [e141, q141_0, q141_1, q141_4, q141_5, q141_6, q141_9, q141_10, q141_11, q141_12, q141_13, q141_16, q141_17, q141_18, q141_21, q141_22, q141_23, q141_24, q141_25, q141_26, q141_27i, q141_27r, q141_28, q141_31, q141_32, q141_33, q141_36, gf_M7, gf_M9, pf_M7, c, n1, pk_mul, nI_add, ast_n96 (show 2 * L.length < 124 by omega), ast_n96 (show 2 * L.length + 1 < 124 by omega), zn1_0, if_true, if_false, ↓reduceIte, Option.bind_some, Option.toList_some, Option.toList_none, List.cons_append, List.nil_append, zB_go, zB_end, zB_no, zokv_i, zokv_r, zokv_n, eq_self]
  · rw [zup_o (by decide), n1, n1]; exact a
  · rw [zup_o (by decide), n1, n1]; exact b
  · rw [zup_at, List.length_append]; rfl
  · rw [zup_o (by decide), n1, n1]; exact e
  · rw [zup_row_ne (by decide), zup_row_ne (by decide), zup_row_ne (by decide)]; exact f
  · rw [zup_row_ne (by decide), zup_row_ne (by decide), zup_row_ne (by decide)]; exact i
  · rw [zup_row_ne (by decide)]
    rcases zapp_get hk with y | ⟨rfl, rfl⟩
    · have lt := zget_lt y
      rw [zup_o (by omega), zup_o (by omega), zup_o (by omega), zup_o (by omega)]
      exact j k q y
    · rw [zup_o (by omega), zup_at, zup_at]
      exact ⟨rfl, rfl⟩
theorem c142_n {L : List (Int32 × Int32)} {g : zH} (s : zMs tp T u p 5 L g) : zCf zT znl (d + 1) 142 [.ref 91] g = some (some (.int (nI 0)), g) := by
  simp only [e142, q142_0, q142_1, q142_4, q142_5, q142_8, q142_9, q142_10, q142_11i, q142_11r, q142_12, q142_15, q142_16, q142_17, q142_20, q142_21i, q142_21r, q142_22, q142_25, q142_26, q142_27, q142_30, q142_31, gf_M6, s.2.1, z01_0, zn1_0, if_true, if_false, ↓reduceIte, Option.bind_some, Option.toList_some, Option.toList_none, List.cons_append, List.nil_append, zB_go, zB_end, zB_no, zokv_i, zokv_r, zokv_n, eq_self]
theorem c142 {o : Nat} {L : List (Int32 × Int32)} {g : zH} (s : zMs tp T u p o L g) (ho : o < 5) : ∃ g', zCf zT znl (d + 1) 142 [.ref 91] g = some (some (.int (nI 1)), g') ∧ zMs tp T u (p + 1) (o + 1) L g' ∧ zMfr g g' := by
  obtain ⟨s1, f1⟩ := zMs_op (q := o + 1) s
  obtain ⟨s2, f2⟩ := zMs_at (q := p + 1) s1
  have ne : ¬ nI o = nI 5 := nI_ne (by omega) (by omega) (by decide)
  refine ⟨_, ?_, s2, zMfr_trans f1 f2⟩
  have n5 : ∀ v, zup g 91 6 v 91 5 = g 91 5 := fun v => zup_o (by decide)
  simp only [e142, q142_0, q142_1, q142_4, q142_5, q142_8, q142_9, q142_10, q142_11i, q142_11r, q142_12, q142_15, q142_16, q142_17, q142_20, q142_21i, q142_21r, q142_22, q142_25, q142_26, q142_27, q142_30, q142_31, gf_M5, gf_M6, pf_M5, pf_M6, s.1, s.2.1, ne, n5, nI_add, z01_1, zn1_0, if_true, if_false, ↓reduceIte, Option.bind_some, Option.toList_some, Option.toList_none, List.cons_append, List.nil_append, zB_go, zB_end, zB_no, zokv_i, zokv_r, zokv_n, eq_self]
theorem c140 {b : Nat} {L : List (Int32 × Int32)} {g : zH} {o : Nat} (s : zMs tp T u p o L g) (hu : u < 2) (hb : b < 256) : zCf zT znl (d + 1) 140 [.ref 91, .int (nI b)] g = some (some (.int (if zin (nms u) b = true then nI 1 else nI 0)), g) := by
  have e8 := s.2.2.2.1
  obtain rfl | rfl : u = 0 ∨ u = 1 := by omega
  · rw [zin_n0 b hb]
    by_cases h1 : b = 104
    · subst h1; simp (decide := true) only [e140, q140_0, q140_1, q140_3, q140_6, q140_7, q140_9, q140_12, q140_13, q140_14, q140_15, q140_18, q140_21, q140_22, q140_24, q140_27, q140_28, q140_30, q140_33, q140_34, q140_36, q140_39, q140_40, q140_43, q140_44, q140_47, q140_48, q140_50, q140_53, q140_54, q140_57, q140_58, z01_1, zn1_0, if_true, if_false, ↓reduceIte, Option.bind_some, Option.toList_some, Option.toList_none, List.cons_append, List.nil_append, zB_go, zB_end, zB_no, zokv_i, zokv_r, zokv_n, eq_self]
    by_cases h2 : b = 103
    · subst h2; simp (decide := true) only [e140, q140_0, q140_1, q140_3, q140_6, q140_7, q140_9, q140_12, q140_13, q140_14, q140_15, q140_18, q140_21, q140_22, q140_24, q140_27, q140_28, q140_30, q140_33, q140_34, q140_36, q140_39, q140_40, q140_43, q140_44, q140_47, q140_48, q140_50, q140_53, q140_54, q140_57, q140_58, z01_1, zn1_0, if_true, if_false, ↓reduceIte, Option.bind_some, Option.toList_some, Option.toList_none, List.cons_append, List.nil_append, zB_go, zB_end, zB_no, zokv_i, zokv_r, zokv_n, eq_self]
    by_cases h3 : b = 102
    · subst h3; simp (decide := true) only [e140, q140_0, q140_1, q140_3, q140_6, q140_7, q140_9, q140_12, q140_13, q140_14, q140_15, q140_18, q140_21, q140_22, q140_24, q140_27, q140_28, q140_30, q140_33, q140_34, q140_36, q140_39, q140_40, q140_43, q140_44, q140_47, q140_48, q140_50, q140_53, q140_54, q140_57, q140_58, gf_M8, e8, z01_1, zn1_0, if_true, if_false, ↓reduceIte, Option.bind_some, Option.toList_some, Option.toList_none, List.cons_append, List.nil_append, zB_go, zB_end, zB_no, zokv_i, zokv_r, zokv_n, eq_self]
    by_cases h4 : b = 118
    · subst h4; simp (decide := true) only [e140, q140_0, q140_1, q140_3, q140_6, q140_7, q140_9, q140_12, q140_13, q140_14, q140_15, q140_18, q140_21, q140_22, q140_24, q140_27, q140_28, q140_30, q140_33, q140_34, q140_36, q140_39, q140_40, q140_43, q140_44, q140_47, q140_48, q140_50, q140_53, q140_54, q140_57, q140_58, gf_M8, e8, z01_1, zn1_0, if_true, if_false, ↓reduceIte, Option.bind_some, Option.toList_some, Option.toList_none, List.cons_append, List.nil_append, zB_go, zB_end, zB_no, zokv_i, zokv_r, zokv_n, eq_self]
    by_cases h5 : b = 119
    · subst h5; simp (decide := true) only [e140, q140_0, q140_1, q140_3, q140_6, q140_7, q140_9, q140_12, q140_13, q140_14, q140_15, q140_18, q140_21, q140_22, q140_24, q140_27, q140_28, q140_30, q140_33, q140_34, q140_36, q140_39, q140_40, q140_43, q140_44, q140_47, q140_48, q140_50, q140_53, q140_54, q140_57, q140_58, gf_M8, e8, z01_1, zn1_0, if_true, if_false, ↓reduceIte, Option.bind_some, Option.toList_some, Option.toList_none, List.cons_append, List.nil_append, zB_go, zB_end, zB_no, zokv_i, zokv_r, zokv_n, eq_self]
    have i1 := nI_ne h1 (by omega) (by decide)
    have i2 := nI_ne h2 (by omega) (by decide)
    have i3 := nI_ne h3 (by omega) (by decide)
    have i4 := nI_ne h4 (by omega) (by decide)
    have i5 := nI_ne h5 (by omega) (by decide)
    simp only [e140, q140_0, q140_1, q140_3, q140_6, q140_7, q140_9, q140_12, q140_13, q140_14, q140_15, q140_18, q140_21, q140_22, q140_24, q140_27, q140_28, q140_30, q140_33, q140_34, q140_36, q140_39, q140_40, q140_43, q140_44, q140_47, q140_48, q140_50, q140_53, q140_54, q140_57, q140_58, gf_M8, e8, i1, i2, i3, i4, i5, h1, h2, h3, h4, h5, z01_0, or_self, decide_false, Bool.false_eq_true, zn1_0, if_true, if_false, ↓reduceIte, Option.bind_some, Option.toList_some, Option.toList_none, List.cons_append, List.nil_append, zB_go, zB_end, zB_no, zokv_i, zokv_r, zokv_n, eq_self]
  · rw [zin_n1 b hb]
    by_cases h1 : b = 104
    · subst h1; simp (decide := true) only [e140, q140_0, q140_1, q140_3, q140_6, q140_7, q140_9, q140_12, q140_13, q140_14, q140_15, q140_18, q140_21, q140_22, q140_24, q140_27, q140_28, q140_30, q140_33, q140_34, q140_36, q140_39, q140_40, q140_43, q140_44, q140_47, q140_48, q140_50, q140_53, q140_54, q140_57, q140_58, z01_1, zn1_0, if_true, if_false, ↓reduceIte, Option.bind_some, Option.toList_some, Option.toList_none, List.cons_append, List.nil_append, zB_go, zB_end, zB_no, zokv_i, zokv_r, zokv_n, eq_self]
    by_cases h2 : b = 103
    · subst h2; simp (decide := true) only [e140, q140_0, q140_1, q140_3, q140_6, q140_7, q140_9, q140_12, q140_13, q140_14, q140_15, q140_18, q140_21, q140_22, q140_24, q140_27, q140_28, q140_30, q140_33, q140_34, q140_36, q140_39, q140_40, q140_43, q140_44, q140_47, q140_48, q140_50, q140_53, q140_54, q140_57, q140_58, z01_1, zn1_0, if_true, if_false, ↓reduceIte, Option.bind_some, Option.toList_some, Option.toList_none, List.cons_append, List.nil_append, zB_go, zB_end, zB_no, zokv_i, zokv_r, zokv_n, eq_self]
    by_cases h3 : b = 115
    · subst h3; simp (decide := true) only [e140, q140_0, q140_1, q140_3, q140_6, q140_7, q140_9, q140_12, q140_13, q140_14, q140_15, q140_18, q140_21, q140_22, q140_24, q140_27, q140_28, q140_30, q140_33, q140_34, q140_36, q140_39, q140_40, q140_43, q140_44, q140_47, q140_48, q140_50, q140_53, q140_54, q140_57, q140_58, gf_M8, e8, z01_1, zn1_0, if_true, if_false, ↓reduceIte, Option.bind_some, Option.toList_some, Option.toList_none, List.cons_append, List.nil_append, zB_go, zB_end, zB_no, zokv_i, zokv_r, zokv_n, eq_self]
    have i1 := nI_ne h1 (by omega) (by decide)
    have i2 := nI_ne h2 (by omega) (by decide)
    have i3 := nI_ne h3 (by omega) (by decide)
    simp only [e140, q140_0, q140_1, q140_3, q140_6, q140_7, q140_9, q140_12, q140_13, q140_14, q140_15, q140_18, q140_21, q140_22, q140_24, q140_27, q140_28, q140_30, q140_33, q140_34, q140_36, q140_39, q140_40, q140_43, q140_44, q140_47, q140_48, q140_50, q140_53, q140_54, q140_57, q140_58, gf_M8, e8, i1, i2, i3, h1, h2, h3, z01_0, or_self, decide_false, Bool.false_eq_true, zn1_0, if_true, if_false, ↓reduceIte, Option.bind_some, Option.toList_some, Option.toList_none, List.cons_append, List.nil_append, zB_go, zB_end, zB_no, zokv_i, zokv_r, zokv_n, eq_self]
theorem c140_m {L : List (Int32 × Int32)} {g : zH} {o : Nat} (s : zMs tp T u p o L g) (hu : u < 2) : zCf zT znl (d + 1) 140 [.ref 91, .int (-1)] g = some (some (.int (nI 0)), g) := by
  have e8 := s.2.2.2.1
  obtain rfl | rfl : u = 0 ∨ u = 1 := by omega
  all_goals simp (decide := true) only [e140, q140_0, q140_1, q140_3, q140_6, q140_7, q140_9, q140_12, q140_13, q140_14, q140_15, q140_18, q140_21, q140_22, q140_24, q140_27, q140_28, q140_30, q140_33, q140_34, q140_36, q140_39, q140_40, q140_43, q140_44, q140_47, q140_48, q140_50, q140_53, q140_54, q140_57, q140_58, gf_M8, e8, z01_0, zn1_0, if_true, if_false, ↓reduceIte, Option.bind_some, Option.toList_some, Option.toList_none, List.cons_append, List.nil_append, zB_go, zB_end, zB_no, zokv_i, zokv_r, zokv_n, eq_self]
end O92
