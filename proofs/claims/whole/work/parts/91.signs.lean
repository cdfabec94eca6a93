/-! ===== texts of signs ===== -/
def zposf (bs : List Int32) (c : Int32) : Nat → Nat → Int32
  | 0, _ => -1
  | m + 1, i => if bs.getD i 0 = c then nI i else zposf bs c m (i + 1)
def zpos (bs : List Int32) (c : Int32) : Int32 := zposf bs c bs.length 0
theorem zt8a : ∀ c, c < 128 → (nI c).toInt8.toInt32 = nI c := by decide +kernel
theorem zt8b : ∀ c, c < 128 → (nI (128 + c)).toInt8.toInt32 < nI 0 := by decide +kernel
theorem zsh0 : ∀ L, L < 100 → nI L >>> (nI 0 &&& 31) = nI L := by decide +kernel
theorem zchar {c : Nat} (hc : c < 256) : ((nI c).toUInt32 % 65536).toInt32 = nI c := by
  rw [pk_char, pk_tn (by omega), Nat.mod_eq_of_lt (by omega)]
def zasc (bs : List Int32) : Prop := ∀ i, i < bs.length → ∃ n, n < 128 ∧ bs.getD i 0 = nI n
theorem zpos_v {bs : List Int32} {c : Int32} : ∀ (m i : Nat), (zposf bs c m i = -1 ∧ ∀ j, i ≤ j → j < i + m → bs.getD j 0 ≠ c) ∨ ∃ j, i ≤ j ∧ j < i + m ∧ zposf bs c m i = nI j ∧ bs.getD j 0 = c
  | 0, i => Or.inl ⟨rfl, fun j h1 h2 => absurd h1 (by omega)⟩
  | m + 1, i => by
    unfold zposf
    by_cases e : bs.getD i 0 = c
    · rw [if_pos e]; exact Or.inr ⟨i, Nat.le_refl _, by omega, rfl, e⟩
    · rw [if_neg e]
      rcases zpos_v (bs := bs) (c := c) m (i + 1) with ⟨a, b⟩ | ⟨j, a, b, x, y⟩
      · refine Or.inl ⟨a, fun j h1 h2 => ?_⟩
        by_cases y : j = i
        · subst y; exact e
        · exact b j (by omega) (by omega)
      · exact Or.inr ⟨j, by omega, by omega, x, y⟩
section O91
variable (d : Nat) (h : zH)
theorem w213 {b c : Nat} {bs : List Int32} {x y : Value} (hb : zsh b = (4, 0, [], bs)) (hl : bs.length < 100) (hc : c < 256) (asc : zasc bs) {c8 : Int32} (e8 : c8 = (nI c).toInt8.toInt32) : ∀ (m i : Nat), i + m = bs.length → zXf zT znl d 213 7 [.ref b, x, y, .int (nI bs.length), .int c8, .int (nI i)] [] h = some (some (.int (zposf bs (nI c) m i)), h) := by
  intro m
  induction m with
  | zero =>
    intro i hi
    have le : nI bs.length ≤ nI i := by rw [show i = bs.length by omega]; exact Int32.le_refl _
    rw [q213_7]
    simp only [q213_9, q213_10, q213_31, q213_32, le, zn1_0, if_true, if_false, ↓reduceIte, Option.bind_some, Option.toList_some, Option.toList_none, List.cons_append, List.nil_append, zB_go, zB_end, zB_no, zokv_i, zokv_r, zokv_n, eq_self]
    rfl
  | succ m ih =>
    intro i hi
    have le : ¬ nI bs.length ≤ nI i := nI_ge (by omega) (by omega)
    obtain ⟨n, hn, en⟩ := asc i (by omega)
    have bal : ∀ nx lo st, oBald nx lo (.int (nI i) :: .ref b :: st) h = zgo nx lo (.int (bs.getD i 0) :: st) h := fun nx lo st => by
      show (if _ then _ else _) = _
      rw [hb]
      have rg := nI_rng (i := i) (n := bs.length) (by omega) (by omega)
      rw [if_pos ⟨rfl, rg⟩, nI_clamp (by omega)]
    have iff : bs.getD i 0 = c8 ↔ bs.getD i 0 = nI c := by
      rw [e8, en]
      by_cases q : c < 128
      · rw [zt8a c q]
      · constructor
        · intro w
          have k := zt8b (c - 128) (by omega)
          rw [show 128 + (c - 128) = c by omega, ← w] at k
          exact absurd k (nI_nlt (Nat.zero_le _) (by omega))
        · intro w
          exact absurd ((nI_eq (by omega) (by omega)).mp w) (by omega)
    unfold zposf
    by_cases e : bs.getD i 0 = nI c
    · have e' := iff.mpr e
      rw [if_pos e, q213_7]
      simp only [q213_9, q213_10, q213_13, q213_14, q213_16, q213_17, q213_19, q213_22, q213_24, bal, le, e', zn1_0, if_true, if_false, ↓reduceIte, Option.bind_some, Option.toList_some, Option.toList_none, List.cons_append, List.nil_append, zB_go, zB_end, zB_no, zokv_i, zokv_r, zokv_n, eq_self]
    · have e' : ¬ bs.getD i 0 = c8 := fun w => e (iff.mp w)
      rw [if_neg e, ← ih (i + 1) (by omega), q213_7]
      simp only [q213_9, q213_10, q213_13, q213_14, q213_16, q213_17, q213_19, q213_25, q213_28, bal, le, e', nI_add, zn1_0, if_true, if_false, ↓reduceIte, Option.bind_some, Option.toList_some, Option.toList_none, List.cons_append, List.nil_append, zB_go, zB_end, zB_no, zokv_i, zokv_r, zokv_n, eq_self]
theorem c211 {s b c : Nat} {bs : List Int32} (hs : zsh s = (5, b, [], [])) (hb : zsh b = (4, 0, [], bs)) (hl : bs.length < 100) (h0 : 0 < bs.length) (hc : c < 256) (asc : zasc bs) : zCf zT znl (d + 6) 211 [.ref s, .int (nI c)] h = some (some (.int (zpos bs (nI c))), h) := by
  have rcs : ∀ as, (zrc 99 (.ref s :: as) = true) = True := fun as => eq_true (by
    show ((zsh s).1 == 5) = true
    rw [hs]; rfl)
  have sv : ∀ nx lo st, oStrV nx lo (.ref s :: st) h = zgo nx lo (.ref b :: st) h := fun nx lo st => by
    show (if (zsh s).1 = 5 then zgo nx lo (.ref (zsh s).2.1 :: st) h else none) = _
    rw [hs]; rfl
  have sc : ∀ nx lo st, oStrC nx lo (.ref s :: st) h = zgo nx lo (.int (nI 0) :: st) h := fun nx lo st => by
    show (if (zsh s).1 = 5 then zgo nx lo (.int 0 :: st) h else none) = _
    rw [hs]; rfl
  have al : ∀ nx lo st, oAlen nx lo (.ref b :: st) h = zgo nx lo (.int (nI bs.length) :: st) h := fun nx lo st => by
    show (if (zsh b).1 = 0 ∧ b < 309 then _ else if (zsh b).1 = 4 then zgo nx lo (.int (Int32.ofNat (zsh b).2.2.2.length) :: st) h else none) = _
    rw [hb]; rfl
  have c7 : ∀ d, zCf zT znl (d + 1) 207 [.ref s] h = some (some (.int (nI 1)), h) := fun d => by
    simp only [e207, q207_0, q207_3, q207_6, q207_7, q207_10, q207_13, q207_14, q207_17, q207_18, sc, z01_1, zn1_0, if_true, if_false, ↓reduceIte, Option.bind_some, Option.toList_some, Option.toList_none, List.cons_append, List.nil_append, zB_go, zB_end, zB_no, zokv_i, zokv_r, zokv_n, eq_self]
  have c8 : ∀ d, zCf zT znl (d + 1) 208 [.ref s] h = some (some (.int (nI 0)), h) := fun d => by
    simp only [e208, q208_0, q208_3, q208_6, q208_7, q208_10, q208_13, q208_14, sc, z01_0, zn1_0, if_true, if_false, ↓reduceIte, Option.bind_some, Option.toList_some, Option.toList_none, List.cons_append, List.nil_append, zB_go, zB_end, zB_no, zokv_i, zokv_r, zokv_n, eq_self]
  have c9 : ∀ d, zCf zT znl (d + 2) 209 [.ref s] h = some (some (.int (nI bs.length)), h) := fun d => by
    simp only [e209, q209_0, q209_1, q209_4, q209_5, q209_6, q209_9, q209_10, sv, al, c8, rcs, zsh0 _ hl, zn1_0, if_true, if_false, ↓reduceIte, Option.bind_some, Option.toList_some, Option.toList_none, List.cons_append, List.nil_append, zB_go, zB_end, zB_no, zokv_i, zokv_r, zokv_n, eq_self]
  have n1 : ¬ nI c < nI 0 := nI_nlt (Nat.zero_le _) (by omega)
  have n2 : ¬ nI 255 < nI c := nI_nlt (by omega) (by decide)
  have c12 : ∀ d, zCf zT znl (d + 1) 212 [.int (nI c)] h = some (some (.int (nI 1)), h) := fun d => by
    simp only [e212, q212_0, q212_1, q212_4, q212_5, q212_8, q212_11, q212_12, q212_15, q212_16, n1, n2, z01_1, zn1_0, if_true, if_false, ↓reduceIte, Option.bind_some, Option.toList_some, Option.toList_none, List.cons_append, List.nil_append, zB_go, zB_end, zB_no, zokv_i, zokv_r, zokv_n, eq_self]
  have c13 : ∀ d, zCf zT znl (d + 1) 213 [.ref b, .int (nI c), .int (nI 0), .int (nI bs.length)] h = some (some (.int (zpos bs (nI c))), h) := fun d => by
    have w := w213 d h (x := .int (nI c)) (y := .int (nI 0)) hb hl hc asc rfl bs.length 0 (by omega)
    unfold zpos
    rw [← w]
    simp only [e213, q213_0, q213_1, q213_2, q213_4, q213_5, Option.bind_some, Option.toList_some, Option.toList_none, List.cons_append, List.nil_append, zB_go, zB_end, zB_no, zokv_i, zokv_r, zokv_n, eq_self]
  have lt := nI_lt h0 (show bs.length < 2 ^ 31 by omega)
  have mx : zmax (nI 0) (nI 0) = nI 0 := by decide
  have mn : zmin (nI bs.length) (nI bs.length) = nI bs.length := by unfold zmin; rw [if_neg Int32.lt_irrefl]
  have c14 : ∀ d, zCf zT znl (d + 2) 214 [.ref b, .int (nI c), .int (nI 0), .int (nI bs.length)] h = some (some (.int (zpos bs (nI c))), h) := fun d => by
    simp only [e214, q214_0, q214_1, q214_4, q214_7, q214_8, q214_9, q214_10, q214_11, q214_14, q214_15, q214_16, q214_17, q214_18, q214_21, q214_22, q214_23, q214_24, q214_27, q214_28, q214_29, q214_30, q214_31, q214_32, q214_33, q214_36, c12, c205, c206, mx, mn, al, lt, c13, zn1_0, if_true, if_false, ↓reduceIte, Option.bind_some, Option.toList_some, Option.toList_none, List.cons_append, List.nil_append, zB_go, zB_end, zB_no, zokv_i, zokv_r, zokv_n, eq_self]
  have c10 : ∀ d, zCf zT znl (d + 3) 210 [.ref s, .int (nI c), .int (nI 0)] h = some (some (.int (zpos bs (nI c))), h) := fun d => by
    simp only [e210, q210_0, q210_1, q210_4, q210_7, q210_8, q210_11, q210_12, q210_13, q210_14, q210_17, q210_20, q210_36, c7, sv, c9, c14, rcs, zn1_0, if_true, if_false, ↓reduceIte, Option.bind_some, Option.toList_some, Option.toList_none, List.cons_append, List.nil_append, zB_go, zB_end, zB_no, zokv_i, zokv_r, zokv_n, eq_self]
  simp only [e211, q211_0, q211_1, q211_2, q211_3, q211_6, c10, rcs, zn1_0, if_true, if_false, ↓reduceIte, Option.bind_some, Option.toList_some, Option.toList_none, List.cons_append, List.nil_append, zB_go, zB_end, zB_no, zokv_i, zokv_r, zokv_n, eq_self]
end O91
