/-! ===== the readers: joined texts ===== -/
def zlim (l : Nat) : Nat := if l = 2 then 1 else 60
theorem zsgl {l b : Nat} (hl : l < 5) (hb : b < 256) (z : zin (sgl l) b = true) : zsig (nI b) := by
  obtain rfl | rfl | rfl | rfl | rfl : l = 0 ∨ l = 1 ∨ l = 2 ∨ l = 3 ∨ l = 4 := by omega
  · rw [zin_0 b hb] at z
    have y := of_decide_eq_true z
    subst y
    unfold zsig
    decide
  · rw [zin_1 b hb] at z
    have y := of_decide_eq_true z
    subst y
    unfold zsig
    decide
  · rw [zin_2 b hb] at z
    rcases of_decide_eq_true z with rfl | rfl | rfl
    all_goals (unfold zsig; decide)
  · rw [zin_3 b hb] at z
    rcases of_decide_eq_true z with rfl | rfl
    all_goals (unfold zsig; decide)
  · rw [zin_4 b hb] at z
    rcases of_decide_eq_true z with rfl | rfl | rfl
    all_goals (unfold zsig; decide)
def zwft (u : Nat) (t : List (Int32 × Int32)) : Prop := ∀ r k, zwf (zoku u) r (k + 1) → zwf (zoku u) (t ++ r) (k + 1)
theorem zwft_0 {u : Nat} : zwft u [] := fun _ _ h => h
theorem zwft_s {u : Nat} {c : Int32} {t t2 : List (Int32 × Int32)} (w : zwfp u t) (sg : zsig c) (w2 : zwft u t2) : zwft u (t ++ ((nI 3, c) :: t2)) := fun r k h => by
  rw [List.append_assoc]
  exact w _ _ (Or.inr (Or.inr (Or.inr ⟨rfl, sg, by omega, w2 r k h⟩)))
theorem zwfp_t {u : Nat} {t t2 : List (Int32 × Int32)} (w : zwfp u t) (w2 : zwft u t2) : zwfp u (t ++ t2) := fun r k h => by
  rw [List.append_assoc]
  exact w _ _ (w2 r k h)
section O95
variable {tp : Nat → Nat} {T u p o : Nat} (e e' : Nat)
/-- a level -/
theorem a89_in {l : Nat} (hl : l < 5) {h h1 : zH} (A : zCf zT znl (e + 8) 89 [.ref 73, .int (nI (l + 1)), .int (nI o)] h = some (none, h1)) : zCf zT znl (e + 9) 89 [.ref 73, .int (nI l), .int (nI o)] h = zXf zT znl (e + 8) 89 34 [.ref 73, .int (nI l), .int (nI o), .int (nI (zlim l)), .int (nI 0), Value.null] [] h1 := by
  have lt : nI l < nI 5 := nI_lt hl (by decide)
  unfold zlim
  by_cases l2 : l = 2
  · subst l2
    rw [if_pos rfl]
    simp only [e89, q89_0, q89_1, q89_2, q89_11, q89_12, q89_13, q89_14, q89_15, q89_16, q89_19, q89_20, q89_21, q89_24, q89_25, q89_30, q89_31, q89_32, lt, nI_add, A, rc_R, zn1_0, if_true, if_false, ↓reduceIte, Option.bind_some, Option.toList_some, Option.toList_none, List.cons_append, List.nil_append, zB_go, zB_end, zB_no, zokv_i, zokv_r, zokv_n, eq_self]
  · rw [if_neg l2]
    have n1 : ¬ nI l = nI 2 := nI_ne l2 (by omega) (by decide)
    simp only [e89, q89_0, q89_1, q89_2, q89_11, q89_12, q89_13, q89_14, q89_15, q89_16, q89_19, q89_20, q89_21, q89_28, q89_30, q89_31, q89_32, lt, n1, nI_add, A, rc_R, zn1_0, if_true, if_false, ↓reduceIte, Option.bind_some, Option.toList_some, Option.toList_none, List.cons_append, List.nil_append, zB_go, zB_end, zB_no, zokv_i, zokv_r, zokv_n, eq_self]
theorem a89_end {l n i : Nat} {a5 : Value} (hl : l < 5) (hn : n < 1000) (hi : i < 1000) {h : zH} (z : i < n → ∀ d, zCf zT znl (d + 8) 86 [.ref 73, .ref (322 + 2 * l)] h = some (some (.int (nI 0)), h)) : zXf zT znl (e + 8) 89 34 [.ref 73, .int (nI l), .int (nI o), .int (nI n), .int (nI i), a5] [] h = some (none, h) := by
  rw [q89_34]
  by_cases q : i < n
  · have le : ¬ nI n ≤ nI i := nI_ge q (by omega)
    simp only [q89_36, q89_37, q89_40, q89_41, q89_42, q89_45, q89_48, q89_91, le, c84 _ hl, z q, rc_R, zn1_0, if_true, if_false, ↓reduceIte, Option.bind_some, Option.toList_some, Option.toList_none, List.cons_append, List.nil_append, zB_go, zB_end, zB_no, zokv_i, zokv_r, zokv_n, eq_self]
  · have le : nI n ≤ nI i := nI_le (by omega) (by omega)
    simp only [q89_36, q89_37, q89_91, le, zn1_0, if_true, if_false, ↓reduceIte, Option.bind_some, Option.toList_some, Option.toList_none, List.cons_append, List.nil_append, zB_go, zB_end, zB_no, zokv_i, zokv_r, zokv_n, eq_self]
theorem a86_no {l : Nat} (hl : l < 5) {h : zH} {L : List (Int32 × Int32)} (hT : T ≤ 60) (ht : ∀ i, i < 60 → tp i < 256) (hp : p ≤ T) (s : zCs tp T u p L h) (z : p < T → zin (sgl l) (tp p) = false) (d : Nat) : zCf zT znl (d + 8) 86 [.ref 73, .ref (322 + 2 * l)] h = some (some (.int (nI 0)), h) := by
  by_cases q : p < T
  · have n := c86_b d (ztxt_s l hl) (ht p (by omega)) (fun d => c85_b d s.1 s.2.1 q hT)
    rw [z q] at n
    exact n
  · exact c86_n d (fun d => c85_e d s.1 (by omega) (by omega))
theorem a86_f {q r : Nat} {h : zH} (hq : q < 1000) (s : zFs T u q h) (d : Nat) : zCf zT znl (d + 8) 86 [.ref 73, .ref r] h = some (some (.int (nI 0)), h) := c86_n d (fun d => c85_f d hq s.2.2.1)
theorem a89_step {l n i : Nat} {a5 : Value} (hl : l < 5) (hn : n < 1000) (hi : i < n) {h h1 h2 : zH} {L : List (Int32 × Int32)} (hT : T ≤ 60) (ht : ∀ i, i < 60 → tp i < 256) (hp : p < T) (s : zCs tp T u p L h) (z : zin (sgl l) (tp p) = true) (A : zCf zT znl (e + 8) 89 [.ref 73, .int (nI (l + 1)), .int (nI o)] (zup h 73 3 (nI (p + 1))) = some (none, h1)) (B : zCf zT znl (e + 8) 79 [.ref 74, .int (nI (tp p)), .int (nI 0)] h1 = some (none, h2)) : zXf zT znl (e + 8) 89 34 [.ref 73, .int (nI l), .int (nI o), .int (nI n), .int (nI i), a5] [] h = zXf zT znl (e + 8) 89 34 [.ref 73, .int (nI l), .int (nI o), .int (nI n), .int (nI (i + 1)), .int (nI (tp p))] [] h2 := by
  have le : ¬ nI n ≤ nI i := nI_ge hi (by omega)
  have nx := fun d => c85_b d s.1 s.2.1 hp hT
  have n86 := fun d => c86_b d (ztxt_s l hl) (ht p (by omega)) nx
  simp only [z, if_true] at n86
  rw [q89_34]
  simp only [q89_36, q89_37, q89_40, q89_41, q89_42, q89_45, q89_48, q89_51, q89_52, q89_55, q89_57, q89_58i, q89_58r, q89_59, q89_62, q89_63, q89_64, q89_67, q89_68, q89_69, q89_70, q89_71, q89_72, q89_75, q89_76, q89_79, q89_81, q89_82, q89_85, q89_88, le, c84 _ hl, n86, nx, gf_R0, gf_R3, pf_R3, s.1.2.2.1, nI_add, A, B, rc_R, rc_T zTx_74, zn1_0, if_true, if_false, ↓reduceIte, Option.bind_some, Option.toList_some, Option.toList_none, List.cons_append, List.nil_append, zB_go, zB_end, zB_no, zokv_i, zokv_r, zokv_n, eq_self]
/-- the reference: a level -/
def zLv (tp : Nat → Nat) (T u o D km kn l : Nat) (lo : Value → List Value) : Prop :=
  (∀ g g1, zCf zT znl D kn [.ref 91] g = some (some (.int (nI 0)), g1) → zCf zT znl (D + 1) km [.ref 91] g = some (some (.int (nI 0)), g1)) ∧
  (∀ g g1, zCf zT znl D kn [.ref 91] g = some (some (.int (nI 1)), g1) → zCf zT znl (D + 1) km [.ref 91] g = zXf zT znl D km 9 (lo Value.null) [] g1) ∧
  (∀ p L g a, p ≤ T → zMs tp T u p o L g → (p < T → zin (sgl l) (tp p) = false) → zXf zT znl D km 9 (lo a) [] g = some (some (.int (nI 1)), g)) ∧
  ∀ p L g g1 a, p < T → zMs tp T u p o L g → zin (sgl l) (tp p) = true → zCf zT znl D kn [.ref 91] (zup g 91 5 (nI (p + 1))) = some (some (.int (nI 0)), g1) → zXf zT znl D km 9 (lo a) [] g = some (some (.int (nI 0)), g1)
def zLs (tp : Nat → Nat) (T u o D km kn l : Nat) (lo : Value → List Value) : Prop :=
  ∀ p L g g1 g2 a, p < T → zMs tp T u p o L g → zin (sgl l) (tp p) = true → zCf zT znl D kn [.ref 91] (zup g 91 5 (nI (p + 1))) = some (some (.int (nI 1)), g1) → zCf zT znl D 141 [.ref 91, .int (nI 3), .int (nI (tp p))] g1 = some (none, g2) → ∃ a', zXf zT znl D km 9 (lo a) [] g = zXf zT znl D km 9 (lo a') [] g2
def zLw (tp : Nat → Nat) (T u o D km kn l : Nat) (lo : Value → List Value) : Prop :=
  ∀ p L g g1 g2 a, p < T → zMs tp T u p o L g → zin (sgl l) (tp p) = true → zCf zT znl D kn [.ref 91] (zup g 91 5 (nI (p + 1))) = some (some (.int (nI 1)), g1) → zCf zT znl D 141 [.ref 91, .int (nI 3), .int (nI (tp p))] g1 = some (none, g2) → zXf zT znl D km 9 (lo a) [] g = some (some (.int (nI 1)), g2)
theorem zLv_0 (hT : T ≤ 60) (ht : ∀ i, i < 60 → tp i < 256) : zLv tp T u o (e' + 8) 148 143 0 (fun _ => [.ref 91]) := by
  refine ⟨fun g g1 A => by simp only [e148, q148_0, q148_1, q148_4, q148_7, q148_8, A, z01_0, rc_M, zn1_0, if_true, if_false, ↓reduceIte, Option.bind_some, Option.toList_some, Option.toList_none, List.cons_append, List.nil_append, zB_go, zB_end, zB_no, zokv_i, zokv_r, zokv_n, eq_self], fun g g1 A => by simp only [e148, q148_0, q148_1, q148_4, A, zn1_0, if_false, rc_M, Option.bind_some, Option.toList_some, Option.toList_none, List.cons_append, List.nil_append, zB_go, zB_end, zB_no, zokv_i, zokv_r, zokv_n, eq_self], fun p L g a hp s z => ?_, fun p L g g1 a hp s z A => ?_⟩
  · skip
    rw [q148_9]
    by_cases q : p < T
    · have nx := fun d => c139_b d s q hT
      have z := z q
      rw [zin_0 _ (ht p (by omega))] at z
      have y := of_decide_eq_false z
      have hb := ht p (by omega)
      have n124 : ¬ nI (tp p) = nI 124 := nI_ne (by omega) (by omega) (by decide)
      simp only [q148_10, q148_13, q148_15, q148_47, q148_48, nx, n124, z01_1, rc_M, zn1_0, if_true, if_false, ↓reduceIte, Option.bind_some, Option.toList_some, Option.toList_none, List.cons_append, List.nil_append, zB_go, zB_end, zB_no, zokv_i, zokv_r, zokv_n, eq_self]
    · have nx := fun d => c139_e d s (show T ≤ p by omega) (by omega)
      have n124 : ¬ (-1 : Int32) = nI 124 := by decide
      simp only [q148_10, q148_13, q148_15, q148_47, q148_48, nx, n124, z01_1, rc_M, zn1_0, if_true, if_false, ↓reduceIte, Option.bind_some, Option.toList_some, Option.toList_none, List.cons_append, List.nil_append, zB_go, zB_end, zB_no, zokv_i, zokv_r, zokv_n, eq_self]
  · skip
    have nx := fun d => c139_b d s hp hT
    have hb := ht p (by omega)
    rw [zin_0 _ hb] at z
    rw [q148_9]
    rcases of_decide_eq_true z with y
    · have n124 : (nI (tp p) = nI 124) = True := eq_true (by rw [y])
      simp only [q148_10, q148_13, q148_15, q148_18, q148_19i, q148_19r, q148_20, q148_23, q148_24, q148_25, q148_28, q148_29, q148_32, q148_35, q148_36, nx, n124, gf_M5, pf_M5, s.1, nI_add, A, z01_0, rc_M, zn1_0, if_true, if_false, ↓reduceIte, Option.bind_some, Option.toList_some, Option.toList_none, List.cons_append, List.nil_append, zB_go, zB_end, zB_no, zokv_i, zokv_r, zokv_n, eq_self]
theorem zLs_0 (hT : T ≤ 60) (ht : ∀ i, i < 60 → tp i < 256) : zLs tp T u o (e' + 8) 148 143 0 (fun _ => [.ref 91]) := fun p L g g1 g2 a hp s z A B => by
  have nx := fun d => c139_b d s hp hT
  have hb := ht p (by omega)
  rw [zin_0 _ hb] at z
  refine ⟨.int (nI (tp p)), ?_⟩
  rw [show zXf zT znl (e' + 8) 148 9 ((fun _ => [.ref 91]) a) [] g = _ from q148_9 _ _ _ _ _]
  rcases of_decide_eq_true z with y
  · have n124 : (nI (tp p) = nI 124) = True := eq_true (by rw [y])
    rw [y] at B
    simp only [q148_10, q148_13, q148_15, q148_18, q148_19i, q148_19r, q148_20, q148_23, q148_24, q148_25, q148_28, q148_29, q148_32, q148_37, q148_38, q148_39, q148_41, q148_44, nx, n124, gf_M5, pf_M5, s.1, nI_add, zn1_0, A, B, rc_M, zn1_0, if_true, if_false, ↓reduceIte, Option.bind_some, Option.toList_some, Option.toList_none, List.cons_append, List.nil_append, zB_go, zB_end, zB_no, zokv_i, zokv_r, zokv_n, eq_self]
theorem zLv_1 (hT : T ≤ 60) (ht : ∀ i, i < 60 → tp i < 256) : zLv tp T u o (e' + 8) 143 144 1 (fun _ => [.ref 91]) := by
  refine ⟨fun g g1 A => by simp only [e143, q143_0, q143_1, q143_4, q143_7, q143_8, A, z01_0, rc_M, zn1_0, if_true, if_false, ↓reduceIte, Option.bind_some, Option.toList_some, Option.toList_none, List.cons_append, List.nil_append, zB_go, zB_end, zB_no, zokv_i, zokv_r, zokv_n, eq_self], fun g g1 A => by simp only [e143, q143_0, q143_1, q143_4, A, zn1_0, if_false, rc_M, Option.bind_some, Option.toList_some, Option.toList_none, List.cons_append, List.nil_append, zB_go, zB_end, zB_no, zokv_i, zokv_r, zokv_n, eq_self], fun p L g a hp s z => ?_, fun p L g g1 a hp s z A => ?_⟩
  · skip
    rw [q143_9]
    by_cases q : p < T
    · have nx := fun d => c139_b d s q hT
      have z := z q
      rw [zin_1 _ (ht p (by omega))] at z
      have y := of_decide_eq_false z
      have hb := ht p (by omega)
      have n38 : ¬ nI (tp p) = nI 38 := nI_ne (by omega) (by omega) (by decide)
      simp only [q143_10, q143_13, q143_15, q143_47, q143_48, nx, n38, z01_1, rc_M, zn1_0, if_true, if_false, ↓reduceIte, Option.bind_some, Option.toList_some, Option.toList_none, List.cons_append, List.nil_append, zB_go, zB_end, zB_no, zokv_i, zokv_r, zokv_n, eq_self]
    · have nx := fun d => c139_e d s (show T ≤ p by omega) (by omega)
      have n38 : ¬ (-1 : Int32) = nI 38 := by decide
      simp only [q143_10, q143_13, q143_15, q143_47, q143_48, nx, n38, z01_1, rc_M, zn1_0, if_true, if_false, ↓reduceIte, Option.bind_some, Option.toList_some, Option.toList_none, List.cons_append, List.nil_append, zB_go, zB_end, zB_no, zokv_i, zokv_r, zokv_n, eq_self]
  · skip
    have nx := fun d => c139_b d s hp hT
    have hb := ht p (by omega)
    rw [zin_1 _ hb] at z
    rw [q143_9]
    rcases of_decide_eq_true z with y
    · have n38 : (nI (tp p) = nI 38) = True := eq_true (by rw [y])
      simp only [q143_10, q143_13, q143_15, q143_18, q143_19i, q143_19r, q143_20, q143_23, q143_24, q143_25, q143_28, q143_29, q143_32, q143_35, q143_36, nx, n38, gf_M5, pf_M5, s.1, nI_add, A, z01_0, rc_M, zn1_0, if_true, if_false, ↓reduceIte, Option.bind_some, Option.toList_some, Option.toList_none, List.cons_append, List.nil_append, zB_go, zB_end, zB_no, zokv_i, zokv_r, zokv_n, eq_self]
theorem zLs_1 (hT : T ≤ 60) (ht : ∀ i, i < 60 → tp i < 256) : zLs tp T u o (e' + 8) 143 144 1 (fun _ => [.ref 91]) := fun p L g g1 g2 a hp s z A B => by
  have nx := fun d => c139_b d s hp hT
  have hb := ht p (by omega)
  rw [zin_1 _ hb] at z
  refine ⟨.int (nI (tp p)), ?_⟩
  rw [show zXf zT znl (e' + 8) 143 9 ((fun _ => [.ref 91]) a) [] g = _ from q143_9 _ _ _ _ _]
  rcases of_decide_eq_true z with y
  · have n38 : (nI (tp p) = nI 38) = True := eq_true (by rw [y])
    rw [y] at B
    simp only [q143_10, q143_13, q143_15, q143_18, q143_19i, q143_19r, q143_20, q143_23, q143_24, q143_25, q143_28, q143_29, q143_32, q143_37, q143_38, q143_39, q143_41, q143_44, nx, n38, gf_M5, pf_M5, s.1, nI_add, zn1_0, A, B, rc_M, zn1_0, if_true, if_false, ↓reduceIte, Option.bind_some, Option.toList_some, Option.toList_none, List.cons_append, List.nil_append, zB_go, zB_end, zB_no, zokv_i, zokv_r, zokv_n, eq_self]
theorem zLv_2 (hT : T ≤ 60) (ht : ∀ i, i < 60 → tp i < 256) : zLv tp T u o (e' + 8) 144 147 2 (fun a => [.ref 91, a]) := by
  refine ⟨fun g g1 A => by simp only [e144, q144_0, q144_1, q144_4, q144_7, q144_8, A, z01_0, rc_M, zn1_0, if_true, if_false, ↓reduceIte, Option.bind_some, Option.toList_some, Option.toList_none, List.cons_append, List.nil_append, zB_go, zB_end, zB_no, zokv_i, zokv_r, zokv_n, eq_self], fun g g1 A => by simp only [e144, q144_0, q144_1, q144_4, A, zn1_0, if_false, rc_M, Option.bind_some, Option.toList_some, Option.toList_none, List.cons_append, List.nil_append, zB_go, zB_end, zB_no, zokv_i, zokv_r, zokv_n, eq_self], fun p L g a hp s z => ?_, fun p L g g1 a hp s z A => ?_⟩
  · skip
    rw [q144_9]
    by_cases q : p < T
    · have nx := fun d => c139_b d s q hT
      have z := z q
      rw [zin_2 _ (ht p (by omega))] at z
      have y := of_decide_eq_false z
      have hb := ht p (by omega)
      have n60 : ¬ nI (tp p) = nI 60 := nI_ne (by omega) (by omega) (by decide)
      have n61 : ¬ nI (tp p) = nI 61 := nI_ne (by omega) (by omega) (by decide)
      have n62 : ¬ nI (tp p) = nI 62 := nI_ne (by omega) (by omega) (by decide)
      simp only [q144_10, q144_13, q144_14, q144_15, q144_17, q144_20, q144_21, q144_23, q144_26, q144_27, q144_29, q144_32, q144_33, nx, n60, n61, n62, z01_1, rc_M, zn1_0, if_true, if_false, ↓reduceIte, Option.bind_some, Option.toList_some, Option.toList_none, List.cons_append, List.nil_append, zB_go, zB_end, zB_no, zokv_i, zokv_r, zokv_n, eq_self]
    · have nx := fun d => c139_e d s (show T ≤ p by omega) (by omega)
      have n60 : ¬ (-1 : Int32) = nI 60 := by decide
      have n61 : ¬ (-1 : Int32) = nI 61 := by decide
      have n62 : ¬ (-1 : Int32) = nI 62 := by decide
      simp only [q144_10, q144_13, q144_14, q144_15, q144_17, q144_20, q144_21, q144_23, q144_26, q144_27, q144_29, q144_32, q144_33, nx, n60, n61, n62, z01_1, rc_M, zn1_0, if_true, if_false, ↓reduceIte, Option.bind_some, Option.toList_some, Option.toList_none, List.cons_append, List.nil_append, zB_go, zB_end, zB_no, zokv_i, zokv_r, zokv_n, eq_self]
  · skip
    have nx := fun d => c139_b d s hp hT
    have hb := ht p (by omega)
    rw [zin_2 _ hb] at z
    rw [q144_9]
    rcases of_decide_eq_true z with y | y | y
    · have n60 : (nI (tp p) = nI 60) = True := eq_true (by rw [y])
      simp only [q144_10, q144_13, q144_14, q144_15, q144_17, q144_20, q144_21, q144_23, q144_26, q144_27, q144_29, q144_34, q144_35i, q144_35r, q144_36, q144_39, q144_40, q144_41, q144_44, q144_45, q144_48, q144_51, q144_52, nx, n60, gf_M5, pf_M5, s.1, nI_add, A, z01_0, rc_M, zn1_0, if_true, if_false, ↓reduceIte, Option.bind_some, Option.toList_some, Option.toList_none, List.cons_append, List.nil_append, zB_go, zB_end, zB_no, zokv_i, zokv_r, zokv_n, eq_self]
    · have n60 : ¬ nI (tp p) = nI 60 := nI_ne (by omega) (by omega) (by decide)
      have n61 : (nI (tp p) = nI 61) = True := eq_true (by rw [y])
      simp only [q144_10, q144_13, q144_14, q144_15, q144_17, q144_20, q144_21, q144_23, q144_26, q144_27, q144_29, q144_34, q144_35i, q144_35r, q144_36, q144_39, q144_40, q144_41, q144_44, q144_45, q144_48, q144_51, q144_52, nx, n60, n61, gf_M5, pf_M5, s.1, nI_add, A, z01_0, rc_M, zn1_0, if_true, if_false, ↓reduceIte, Option.bind_some, Option.toList_some, Option.toList_none, List.cons_append, List.nil_append, zB_go, zB_end, zB_no, zokv_i, zokv_r, zokv_n, eq_self]
    · have n60 : ¬ nI (tp p) = nI 60 := nI_ne (by omega) (by omega) (by decide)
      have n61 : ¬ nI (tp p) = nI 61 := nI_ne (by omega) (by omega) (by decide)
      have n62 : (nI (tp p) = nI 62) = True := eq_true (by rw [y])
      simp only [q144_10, q144_13, q144_14, q144_15, q144_17, q144_20, q144_21, q144_23, q144_26, q144_27, q144_29, q144_34, q144_35i, q144_35r, q144_36, q144_39, q144_40, q144_41, q144_44, q144_45, q144_48, q144_51, q144_52, nx, n60, n61, n62, gf_M5, pf_M5, s.1, nI_add, A, z01_0, rc_M, zn1_0, if_true, if_false, ↓reduceIte, Option.bind_some, Option.toList_some, Option.toList_none, List.cons_append, List.nil_append, zB_go, zB_end, zB_no, zokv_i, zokv_r, zokv_n, eq_self]
theorem zLw_2 (hT : T ≤ 60) (ht : ∀ i, i < 60 → tp i < 256) : zLw tp T u o (e' + 8) 144 147 2 (fun a => [.ref 91, a]) := fun p L g g1 g2 a hp s z A B => by
  have nx := fun d => c139_b d s hp hT
  have hb := ht p (by omega)
  rw [zin_2 _ hb] at z
  rw [show zXf zT znl (e' + 8) 144 9 ((fun a => [.ref 91, a]) a) [] g = _ from q144_9 _ _ _ _ _]
  rcases of_decide_eq_true z with y | y | y
  · have n60 : (nI (tp p) = nI 60) = True := eq_true (by rw [y])
    simp only [q144_10, q144_13, q144_14, q144_15, q144_17, q144_20, q144_21, q144_23, q144_26, q144_27, q144_29, q144_34, q144_35i, q144_35r, q144_36, q144_39, q144_40, q144_41, q144_44, q144_45, q144_48, q144_53, q144_54, q144_55, q144_56, q144_59, q144_60, nx, n60, gf_M5, pf_M5, s.1, nI_add, zn1_0, A, B, z01_1, rc_M, zn1_0, if_true, if_false, ↓reduceIte, Option.bind_some, Option.toList_some, Option.toList_none, List.cons_append, List.nil_append, zB_go, zB_end, zB_no, zokv_i, zokv_r, zokv_n, eq_self]
  · have n60 : ¬ nI (tp p) = nI 60 := nI_ne (by omega) (by omega) (by decide)
    have n61 : (nI (tp p) = nI 61) = True := eq_true (by rw [y])
    simp only [q144_10, q144_13, q144_14, q144_15, q144_17, q144_20, q144_21, q144_23, q144_26, q144_27, q144_29, q144_34, q144_35i, q144_35r, q144_36, q144_39, q144_40, q144_41, q144_44, q144_45, q144_48, q144_53, q144_54, q144_55, q144_56, q144_59, q144_60, nx, n60, n61, gf_M5, pf_M5, s.1, nI_add, zn1_0, A, B, z01_1, rc_M, zn1_0, if_true, if_false, ↓reduceIte, Option.bind_some, Option.toList_some, Option.toList_none, List.cons_append, List.nil_append, zB_go, zB_end, zB_no, zokv_i, zokv_r, zokv_n, eq_self]
  · have n60 : ¬ nI (tp p) = nI 60 := nI_ne (by omega) (by omega) (by decide)
    have n61 : ¬ nI (tp p) = nI 61 := nI_ne (by omega) (by omega) (by decide)
    have n62 : (nI (tp p) = nI 62) = True := eq_true (by rw [y])
    simp only [q144_10, q144_13, q144_14, q144_15, q144_17, q144_20, q144_21, q144_23, q144_26, q144_27, q144_29, q144_34, q144_35i, q144_35r, q144_36, q144_39, q144_40, q144_41, q144_44, q144_45, q144_48, q144_53, q144_54, q144_55, q144_56, q144_59, q144_60, nx, n60, n61, n62, gf_M5, pf_M5, s.1, nI_add, zn1_0, A, B, z01_1, rc_M, zn1_0, if_true, if_false, ↓reduceIte, Option.bind_some, Option.toList_some, Option.toList_none, List.cons_append, List.nil_append, zB_go, zB_end, zB_no, zokv_i, zokv_r, zokv_n, eq_self]
theorem zLv_3 (hT : T ≤ 60) (ht : ∀ i, i < 60 → tp i < 256) : zLv tp T u o (e' + 8) 147 146 3 (fun a => [.ref 91, a]) := by
  refine ⟨fun g g1 A => by simp only [e147, q147_0, q147_1, q147_4, q147_7, q147_8, A, z01_0, rc_M, zn1_0, if_true, if_false, ↓reduceIte, Option.bind_some, Option.toList_some, Option.toList_none, List.cons_append, List.nil_append, zB_go, zB_end, zB_no, zokv_i, zokv_r, zokv_n, eq_self], fun g g1 A => by simp only [e147, q147_0, q147_1, q147_4, A, zn1_0, if_false, rc_M, Option.bind_some, Option.toList_some, Option.toList_none, List.cons_append, List.nil_append, zB_go, zB_end, zB_no, zokv_i, zokv_r, zokv_n, eq_self], fun p L g a hp s z => ?_, fun p L g g1 a hp s z A => ?_⟩
  · skip
    rw [q147_9]
    by_cases q : p < T
    · have nx := fun d => c139_b d s q hT
      have z := z q
      rw [zin_3 _ (ht p (by omega))] at z
      have y := of_decide_eq_false z
      have hb := ht p (by omega)
      have n43 : ¬ nI (tp p) = nI 43 := nI_ne (by omega) (by omega) (by decide)
      have n45 : ¬ nI (tp p) = nI 45 := nI_ne (by omega) (by omega) (by decide)
      simp only [q147_10, q147_13, q147_15, q147_18, q147_19, q147_22, q147_24, q147_60, q147_61, nx, n43, n45, z01_1, rc_M, zn1_0, if_true, if_false, ↓reduceIte, Option.bind_some, Option.toList_some, Option.toList_none, List.cons_append, List.nil_append, zB_go, zB_end, zB_no, zokv_i, zokv_r, zokv_n, eq_self]
    · have nx := fun d => c139_e d s (show T ≤ p by omega) (by omega)
      have n43 : ¬ (-1 : Int32) = nI 43 := by decide
      have n45 : ¬ (-1 : Int32) = nI 45 := by decide
      simp only [q147_10, q147_13, q147_15, q147_18, q147_19, q147_22, q147_24, q147_60, q147_61, nx, n43, n45, z01_1, rc_M, zn1_0, if_true, if_false, ↓reduceIte, Option.bind_some, Option.toList_some, Option.toList_none, List.cons_append, List.nil_append, zB_go, zB_end, zB_no, zokv_i, zokv_r, zokv_n, eq_self]
  · skip
    have nx := fun d => c139_b d s hp hT
    have hb := ht p (by omega)
    rw [zin_3 _ hb] at z
    rw [q147_9]
    rcases of_decide_eq_true z with y | y
    · have n43 : (nI (tp p) = nI 43) = True := eq_true (by rw [y])
      simp only [q147_10, q147_13, q147_15, q147_18, q147_19, q147_22, q147_24, q147_27, q147_28, q147_31, q147_32, q147_33i, q147_33r, q147_34, q147_37, q147_38, q147_39, q147_42, q147_43, q147_46, q147_49, q147_50, nx, n43, gf_M5, pf_M5, s.1, nI_add, A, z01_0, rc_M, zn1_0, if_true, if_false, ↓reduceIte, Option.bind_some, Option.toList_some, Option.toList_none, List.cons_append, List.nil_append, zB_go, zB_end, zB_no, zokv_i, zokv_r, zokv_n, eq_self]
    · have n43 : ¬ nI (tp p) = nI 43 := nI_ne (by omega) (by omega) (by decide)
      have n45 : (nI (tp p) = nI 45) = True := eq_true (by rw [y])
      simp only [q147_10, q147_13, q147_15, q147_18, q147_19, q147_22, q147_24, q147_27, q147_28, q147_31, q147_32, q147_33i, q147_33r, q147_34, q147_37, q147_38, q147_39, q147_42, q147_43, q147_46, q147_49, q147_50, nx, n43, n45, gf_M5, pf_M5, s.1, nI_add, A, z01_0, rc_M, zn1_0, if_true, if_false, ↓reduceIte, Option.bind_some, Option.toList_some, Option.toList_none, List.cons_append, List.nil_append, zB_go, zB_end, zB_no, zokv_i, zokv_r, zokv_n, eq_self]
theorem zLs_3 (hT : T ≤ 60) (ht : ∀ i, i < 60 → tp i < 256) : zLs tp T u o (e' + 8) 147 146 3 (fun a => [.ref 91, a]) := fun p L g g1 g2 a hp s z A B => by
  have nx := fun d => c139_b d s hp hT
  have hb := ht p (by omega)
  rw [zin_3 _ hb] at z
  refine ⟨.int (nI (tp p)), ?_⟩
  rw [show zXf zT znl (e' + 8) 147 9 ((fun a => [.ref 91, a]) a) [] g = _ from q147_9 _ _ _ _ _]
  rcases of_decide_eq_true z with y | y
  · have n43 : (nI (tp p) = nI 43) = True := eq_true (by rw [y])
    simp only [q147_10, q147_13, q147_15, q147_18, q147_19, q147_22, q147_24, q147_27, q147_28, q147_31, q147_32, q147_33i, q147_33r, q147_34, q147_37, q147_38, q147_39, q147_42, q147_43, q147_46, q147_51, q147_52, q147_53, q147_54, q147_57, nx, n43, gf_M5, pf_M5, s.1, nI_add, zn1_0, A, B, z01_1, rc_M, zn1_0, if_true, if_false, ↓reduceIte, Option.bind_some, Option.toList_some, Option.toList_none, List.cons_append, List.nil_append, zB_go, zB_end, zB_no, zokv_i, zokv_r, zokv_n, eq_self]
  · have n43 : ¬ nI (tp p) = nI 43 := nI_ne (by omega) (by omega) (by decide)
    have n45 : (nI (tp p) = nI 45) = True := eq_true (by rw [y])
    simp only [q147_10, q147_13, q147_15, q147_18, q147_19, q147_22, q147_24, q147_27, q147_28, q147_31, q147_32, q147_33i, q147_33r, q147_34, q147_37, q147_38, q147_39, q147_42, q147_43, q147_46, q147_51, q147_52, q147_53, q147_54, q147_57, nx, n43, n45, gf_M5, pf_M5, s.1, nI_add, zn1_0, A, B, z01_1, rc_M, zn1_0, if_true, if_false, ↓reduceIte, Option.bind_some, Option.toList_some, Option.toList_none, List.cons_append, List.nil_append, zB_go, zB_end, zB_no, zokv_i, zokv_r, zokv_n, eq_self]
theorem zLv_4 (hT : T ≤ 60) (ht : ∀ i, i < 60 → tp i < 256) : zLv tp T u o (e' + 8) 146 145 4 (fun a => [.ref 91, a]) := by
  refine ⟨fun g g1 A => by simp only [e146, q146_0, q146_1, q146_4, q146_7, q146_8, A, z01_0, rc_M, zn1_0, if_true, if_false, ↓reduceIte, Option.bind_some, Option.toList_some, Option.toList_none, List.cons_append, List.nil_append, zB_go, zB_end, zB_no, zokv_i, zokv_r, zokv_n, eq_self], fun g g1 A => by simp only [e146, q146_0, q146_1, q146_4, A, zn1_0, if_false, rc_M, Option.bind_some, Option.toList_some, Option.toList_none, List.cons_append, List.nil_append, zB_go, zB_end, zB_no, zokv_i, zokv_r, zokv_n, eq_self], fun p L g a hp s z => ?_, fun p L g g1 a hp s z A => ?_⟩
  · skip
    rw [q146_9]
    by_cases q : p < T
    · have nx := fun d => c139_b d s q hT
      have z := z q
      rw [zin_4 _ (ht p (by omega))] at z
      have y := of_decide_eq_false z
      have hb := ht p (by omega)
      have n42 : ¬ nI (tp p) = nI 42 := nI_ne (by omega) (by omega) (by decide)
      have n47 : ¬ nI (tp p) = nI 47 := nI_ne (by omega) (by omega) (by decide)
      have n37 : ¬ nI (tp p) = nI 37 := nI_ne (by omega) (by omega) (by decide)
      simp only [q146_10, q146_13, q146_15, q146_18, q146_19, q146_22, q146_24, q146_27, q146_28, q146_31, q146_33, q146_69, q146_70, nx, n42, n47, n37, z01_1, rc_M, zn1_0, if_true, if_false, ↓reduceIte, Option.bind_some, Option.toList_some, Option.toList_none, List.cons_append, List.nil_append, zB_go, zB_end, zB_no, zokv_i, zokv_r, zokv_n, eq_self]
    · have nx := fun d => c139_e d s (show T ≤ p by omega) (by omega)
      have n42 : ¬ (-1 : Int32) = nI 42 := by decide
      have n47 : ¬ (-1 : Int32) = nI 47 := by decide
      have n37 : ¬ (-1 : Int32) = nI 37 := by decide
      simp only [q146_10, q146_13, q146_15, q146_18, q146_19, q146_22, q146_24, q146_27, q146_28, q146_31, q146_33, q146_69, q146_70, nx, n42, n47, n37, z01_1, rc_M, zn1_0, if_true, if_false, ↓reduceIte, Option.bind_some, Option.toList_some, Option.toList_none, List.cons_append, List.nil_append, zB_go, zB_end, zB_no, zokv_i, zokv_r, zokv_n, eq_self]
  · skip
    have nx := fun d => c139_b d s hp hT
    have hb := ht p (by omega)
    rw [zin_4 _ hb] at z
    rw [q146_9]
    rcases of_decide_eq_true z with y | y | y
    · have n42 : (nI (tp p) = nI 42) = True := eq_true (by rw [y])
      simp only [q146_10, q146_13, q146_15, q146_18, q146_19, q146_22, q146_24, q146_27, q146_28, q146_31, q146_33, q146_36, q146_37, q146_40, q146_41, q146_42i, q146_42r, q146_43, q146_46, q146_47, q146_48, q146_51, q146_52, q146_55, q146_58, q146_59, nx, n42, gf_M5, pf_M5, s.1, nI_add, A, z01_0, rc_M, zn1_0, if_true, if_false, ↓reduceIte, Option.bind_some, Option.toList_some, Option.toList_none, List.cons_append, List.nil_append, zB_go, zB_end, zB_no, zokv_i, zokv_r, zokv_n, eq_self]
    · have n42 : ¬ nI (tp p) = nI 42 := nI_ne (by omega) (by omega) (by decide)
      have n47 : (nI (tp p) = nI 47) = True := eq_true (by rw [y])
      simp only [q146_10, q146_13, q146_15, q146_18, q146_19, q146_22, q146_24, q146_27, q146_28, q146_31, q146_33, q146_36, q146_37, q146_40, q146_41, q146_42i, q146_42r, q146_43, q146_46, q146_47, q146_48, q146_51, q146_52, q146_55, q146_58, q146_59, nx, n42, n47, gf_M5, pf_M5, s.1, nI_add, A, z01_0, rc_M, zn1_0, if_true, if_false, ↓reduceIte, Option.bind_some, Option.toList_some, Option.toList_none, List.cons_append, List.nil_append, zB_go, zB_end, zB_no, zokv_i, zokv_r, zokv_n, eq_self]
    · have n42 : ¬ nI (tp p) = nI 42 := nI_ne (by omega) (by omega) (by decide)
      have n47 : ¬ nI (tp p) = nI 47 := nI_ne (by omega) (by omega) (by decide)
      have n37 : (nI (tp p) = nI 37) = True := eq_true (by rw [y])
      simp only [q146_10, q146_13, q146_15, q146_18, q146_19, q146_22, q146_24, q146_27, q146_28, q146_31, q146_33, q146_36, q146_37, q146_40, q146_41, q146_42i, q146_42r, q146_43, q146_46, q146_47, q146_48, q146_51, q146_52, q146_55, q146_58, q146_59, nx, n42, n47, n37, gf_M5, pf_M5, s.1, nI_add, A, z01_0, rc_M, zn1_0, if_true, if_false, ↓reduceIte, Option.bind_some, Option.toList_some, Option.toList_none, List.cons_append, List.nil_append, zB_go, zB_end, zB_no, zokv_i, zokv_r, zokv_n, eq_self]
theorem zLs_4 (hT : T ≤ 60) (ht : ∀ i, i < 60 → tp i < 256) : zLs tp T u o (e' + 8) 146 145 4 (fun a => [.ref 91, a]) := fun p L g g1 g2 a hp s z A B => by
  have nx := fun d => c139_b d s hp hT
  have hb := ht p (by omega)
  rw [zin_4 _ hb] at z
  refine ⟨.int (nI (tp p)), ?_⟩
  rw [show zXf zT znl (e' + 8) 146 9 ((fun a => [.ref 91, a]) a) [] g = _ from q146_9 _ _ _ _ _]
  rcases of_decide_eq_true z with y | y | y
  · have n42 : (nI (tp p) = nI 42) = True := eq_true (by rw [y])
    simp only [q146_10, q146_13, q146_15, q146_18, q146_19, q146_22, q146_24, q146_27, q146_28, q146_31, q146_33, q146_36, q146_37, q146_40, q146_41, q146_42i, q146_42r, q146_43, q146_46, q146_47, q146_48, q146_51, q146_52, q146_55, q146_60, q146_61, q146_62, q146_63, q146_66, nx, n42, gf_M5, pf_M5, s.1, nI_add, zn1_0, A, B, z01_1, rc_M, zn1_0, if_true, if_false, ↓reduceIte, Option.bind_some, Option.toList_some, Option.toList_none, List.cons_append, List.nil_append, zB_go, zB_end, zB_no, zokv_i, zokv_r, zokv_n, eq_self]
  · have n42 : ¬ nI (tp p) = nI 42 := nI_ne (by omega) (by omega) (by decide)
    have n47 : (nI (tp p) = nI 47) = True := eq_true (by rw [y])
    simp only [q146_10, q146_13, q146_15, q146_18, q146_19, q146_22, q146_24, q146_27, q146_28, q146_31, q146_33, q146_36, q146_37, q146_40, q146_41, q146_42i, q146_42r, q146_43, q146_46, q146_47, q146_48, q146_51, q146_52, q146_55, q146_60, q146_61, q146_62, q146_63, q146_66, nx, n42, n47, gf_M5, pf_M5, s.1, nI_add, zn1_0, A, B, z01_1, rc_M, zn1_0, if_true, if_false, ↓reduceIte, Option.bind_some, Option.toList_some, Option.toList_none, List.cons_append, List.nil_append, zB_go, zB_end, zB_no, zokv_i, zokv_r, zokv_n, eq_self]
  · have n42 : ¬ nI (tp p) = nI 42 := nI_ne (by omega) (by omega) (by decide)
    have n47 : ¬ nI (tp p) = nI 47 := nI_ne (by omega) (by omega) (by decide)
    have n37 : (nI (tp p) = nI 37) = True := eq_true (by rw [y])
    simp only [q146_10, q146_13, q146_15, q146_18, q146_19, q146_22, q146_24, q146_27, q146_28, q146_31, q146_33, q146_36, q146_37, q146_40, q146_41, q146_42i, q146_42r, q146_43, q146_46, q146_47, q146_48, q146_51, q146_52, q146_55, q146_60, q146_61, q146_62, q146_63, q146_66, nx, n42, n47, n37, gf_M5, pf_M5, s.1, nI_add, zn1_0, A, B, z01_1, rc_M, zn1_0, if_true, if_false, ↓reduceIte, Option.bind_some, Option.toList_some, Option.toList_none, List.cons_append, List.nil_append, zB_go, zB_end, zB_no, zokv_i, zokv_r, zokv_n, eq_self]
/-- what is behind a text -/
def zTail (tp : Nat → Nat) (T u o D D' km l : Nat) (lo : Value → List Value) (p : Nat) : Prop :=
  (∃ q t, p ≤ q ∧ q ≤ T ∧ t.length + p ≤ q ∧ zwft u t ∧ (∀ i a5 h L, i ≤ p → L.length ≤ p → zCs tp T u p L h → ∃ h', zXf zT znl D 89 34 [.ref 73, .int (nI l), .int (nI o), .int (nI 60), .int (nI i), a5] [] h = some (none, h') ∧ zCs tp T u q (L ++ t) h' ∧ zCfr h h') ∧ (∀ a g L, L.length ≤ p → zMs tp T u p o L g → ∃ g', zXf zT znl D' km 9 (lo a) [] g = some (some (.int (nI 1)), g') ∧ zMs tp T u q o (L ++ t) g' ∧ zMfr g g')) ∨
  (∃ q, q ≤ T ∧ (∀ i a5 h L, i ≤ p → L.length ≤ p → zCs tp T u p L h → ∃ h', zXf zT znl D 89 34 [.ref 73, .int (nI l), .int (nI o), .int (nI 60), .int (nI i), a5] [] h = some (none, h') ∧ zFs T u q h' ∧ zCfr h h') ∧ (∀ a g L, L.length ≤ p → zMs tp T u p o L g → ∃ g', zXf zT znl D' km 9 (lo a) [] g = some (some (.int (nI 0)), g') ∧ g' 91 5 = nI q ∧ zMfr g g'))
theorem zTail_m (hT : T ≤ 60) (ht : ∀ i, i < 60 → tp i < 256) {l km kn : Nat} {lo : Value → List Value} (hl : l < 5) (lv : zLv tp T u o (e' + 8) km kn l lo) (ls : zLs tp T u o (e' + 8) km kn l lo) (sub : ∀ p, p ≤ T → zZ tp T u (e + 8) 89 [.ref 73, .int (nI (l + 1)), .int (nI o)] (e' + 8) kn [.ref 91] p o) : ∀ m p, p + m = T → zTail tp T u o (e + 8) (e' + 8) km l lo p := by
  intro m
  induction m using Nat.strongRecOn with
  | _ m ih =>
  intro p hp
  by_cases z : p < T ∧ zin (sgl l) (tp p) = true
  · obtain ⟨q, z⟩ := z
    have sg := zsgl hl (ht p (by omega)) z
    rcases sub (p + 1) (by omega) with ⟨r, t, ⟨r1, r2, r3, r4⟩, A, B⟩ | ⟨r, r2, A, B⟩
    · have tl := ih (T - r) (by omega) r (by omega)
      have en : zenc (zixu u) (nI 3, nI (tp p)) (nI (tp p)) (nI 0) := ⟨fun x => absurd x (show ¬ nI 3 = nI 0 by decide), fun x => absurd x (show ¬ nI 3 = nI 1 by decide), fun x => absurd x (show ¬ nI 3 = nI 2 by decide), fun _ => rfl⟩
      have ca : ∀ i a5 h L, i ≤ p → L.length ≤ p → zCs tp T u p L h → ∃ h', zXf zT znl (e + 8) 89 34 [.ref 73, .int (nI l), .int (nI o), .int (nI 60), .int (nI i), a5] [] h = zXf zT znl (e + 8) 89 34 [.ref 73, .int (nI l), .int (nI o), .int (nI 60), .int (nI (i + 1)), .int (nI (tp p))] [] h' ∧ zCs tp T u r (L ++ t ++ [(nI 3, nI (tp p))]) h' ∧ zCfr h h' := fun i a5 h L hi hL s => by
        obtain ⟨s1, f1⟩ := zCs_at (q := p + 1) s
        obtain ⟨h2, c2, s2, f2⟩ := A _ L (by omega) s1
        obtain ⟨h3, c3, d1, d2, d3⟩ := c79 (e + 7) s2.2.2 (by rw [List.length_append]; omega) en
        exact ⟨h3, a89_step e hl (by decide) (by omega) hT ht q s z c2 c3, zCs_add s2 d1 d3, zCfr_trans f1 (zCfr_trans f2 ⟨fun a _ x y z => d3 a x y z, d2⟩)⟩
      have ra : ∀ a g L, L.length ≤ p → zMs tp T u p o L g → ∃ a' g', zXf zT znl (e' + 8) km 9 (lo a) [] g = zXf zT znl (e' + 8) km 9 (lo a') [] g' ∧ zMs tp T u r o (L ++ t ++ [(nI 3, nI (tp p))]) g' ∧ zMfr g g' := fun a g L hL s => by
        obtain ⟨s1, f1⟩ := zMs_at (q := p + 1) s
        obtain ⟨g2, c2, s2, f2⟩ := B _ L (by omega) s1
        obtain ⟨g3, c3, s3, f3⟩ := c141 (e' + 7) (w := nI 3) (v := nI (tp p)) s2 (by rw [List.length_append]; omega)
        obtain ⟨a', c4⟩ := ls p L g g2 g3 a q s z c2 c3
        exact ⟨a', g3, c4, s3, zMfr_trans f1 (zMfr_trans f2 f3)⟩
      have ll : ∀ L : List (Int32 × Int32), L.length ≤ p → (L ++ t ++ [(nI 3, nI (tp p))]).length ≤ r := fun L hL => by
        rw [List.length_append, List.length_append]; show L.length + t.length + 1 ≤ r; omega
      rcases tl with ⟨r', t', k1, k2, k3, k4, A2, B2⟩ | ⟨r', k2, A2, B2⟩
      · have ap : ∀ L : List (Int32 × Int32), L ++ (t ++ ((nI 3, nI (tp p)) :: t')) = L ++ t ++ [(nI 3, nI (tp p))] ++ t' := fun L => by
          rw [List.append_assoc, List.append_assoc]; rfl
        refine Or.inl ⟨r', t ++ ((nI 3, nI (tp p)) :: t'), by omega, k2, by rw [List.length_append, List.length_cons]; omega, zwft_s r4 sg k4, fun i a5 h L hi hL s => ?_, fun a g L hL s => ?_⟩
        · obtain ⟨h1, a1, s1, f1⟩ := ca i a5 h L hi hL s
          obtain ⟨h2, a2, s2, f2⟩ := A2 (i + 1) _ h1 _ (by omega) (ll L hL) s1
          exact ⟨h2, a1.trans a2, by rw [ap]; exact s2, zCfr_trans f1 f2⟩
        · obtain ⟨a', g1, a1, s1, f1⟩ := ra a g L hL s
          obtain ⟨g2, a2, s2, f2⟩ := B2 a' g1 _ (ll L hL) s1
          exact ⟨g2, a1.trans a2, by rw [ap]; exact s2, zMfr_trans f1 f2⟩
      · refine Or.inr ⟨r', k2, fun i a5 h L hi hL s => ?_, fun a g L hL s => ?_⟩
        · obtain ⟨h1, a1, s1, f1⟩ := ca i a5 h L hi hL s
          obtain ⟨h2, a2, s2, f2⟩ := A2 (i + 1) _ h1 _ (by omega) (ll L hL) s1
          exact ⟨h2, a1.trans a2, s2, zCfr_trans f1 f2⟩
        · obtain ⟨a', g1, a1, s1, f1⟩ := ra a g L hL s
          obtain ⟨g2, a2, s2, f2⟩ := B2 a' g1 _ (ll L hL) s1
          exact ⟨g2, a1.trans a2, s2, zMfr_trans f1 f2⟩
    · refine Or.inr ⟨r, r2, fun i a5 h L hi hL s => ?_, fun a g L hL s => ?_⟩
      · obtain ⟨s1, f1⟩ := zCs_at (q := p + 1) s
        obtain ⟨h2, c2, s2, f2⟩ := A _ L (by omega) s1
        obtain ⟨n, hn, en⟩ := s2.2.2.2.2
        obtain ⟨h3, n', c3, d0, d1, d2, d3⟩ := c79_f (e + 7) (sg := nI (tp p)) (op := nI 0) hn en
        have s3 := zFs_up s2 d0 d1 (d3 73 (by decide) (by decide) (by decide))
        refine ⟨h3, (a89_step e hl (by decide) (by omega) hT ht q s z c2 c3).trans (a89_end e hl (by decide) (by omega) fun _ d => a86_f (by omega) s3 d), s3, zCfr_trans f1 (zCfr_trans f2 ⟨fun a _ x y z => d3 a x y z, d2⟩)⟩
      · obtain ⟨s1, f1⟩ := zMs_at (q := p + 1) s
        obtain ⟨g2, c2, s2, f2⟩ := B _ L (by omega) s1
        exact ⟨g2, lv.2.2.2 p L g g2 a q s z c2, s2, zMfr_trans f1 f2⟩
  · have zn : p < T → zin (sgl l) (tp p) = false := fun q => by
      cases z' : zin (sgl l) (tp p) with
      | false => rfl
      | true => exact absurd ⟨q, z'⟩ z
    refine Or.inl ⟨p, [], Nat.le_refl _, by omega, by show 0 + p ≤ p; omega, zwft_0, fun i a5 h L hi hL s => ?_, fun a g L hL s => ?_⟩
    · exact ⟨h, a89_end e hl (by decide) (by omega) fun _ d => a86_no hl hT ht (by omega) s zn d, by rw [List.append_nil]; exact s, zCfr_refl h⟩
    · exact ⟨g, lv.2.2.1 p L g a (by omega) s zn, by rw [List.append_nil]; exact s, zMfr_refl g⟩
/-- a level with a loop -/
theorem zJ_l (hT : T ≤ 60) (ht : ∀ i, i < 60 → tp i < 256) {l km kn : Nat} {lo : Value → List Value} (hl : l < 5) (l2 : l ≠ 2) (lv : zLv tp T u o (e' + 8) km kn l lo) (ls : zLs tp T u o (e' + 8) km kn l lo) (sub : ∀ p, p ≤ T → zZ tp T u (e + 8) 89 [.ref 73, .int (nI (l + 1)), .int (nI o)] (e' + 8) kn [.ref 91] p o) : ∀ p, p ≤ T → zZ tp T u (e + 9) 89 [.ref 73, .int (nI l), .int (nI o)] (e' + 9) km [.ref 91] p o := by
  intro p hp
  have e60 : zlim l = 60 := if_neg l2
  rcases sub p hp with ⟨r, t, ⟨r1, r2, r3, r4⟩, A, B⟩ | ⟨r, r2, A, B⟩
  · have ll : ∀ L : List (Int32 × Int32), L.length ≤ p → (L ++ t).length ≤ r := fun L hL => by rw [List.length_append]; omega
    rcases zTail_m e e' hT ht hl lv ls sub (T - r) r (by omega) with ⟨r', t', k1, k2, k3, k4, A2, B2⟩ | ⟨r', k2, A2, B2⟩
    · refine Or.inl ⟨r', t ++ t', ⟨by omega, k2, by rw [List.length_append]; omega, zwfp_t r4 k4⟩, fun h L hL s => ?_, fun g L hL s => ?_⟩
      · obtain ⟨h1, a1, s1, f1⟩ := A h L hL s
        obtain ⟨h2, a2, s2, f2⟩ := A2 0 Value.null h1 _ (Nat.zero_le _) (ll L hL) s1
        refine ⟨h2, ?_, by rw [← List.append_assoc]; exact s2, zCfr_trans f1 f2⟩
        rw [a89_in e hl a1, e60]; exact a2
      · obtain ⟨g1, a1, s1, f1⟩ := B g L hL s
        obtain ⟨g2, a2, s2, f2⟩ := B2 Value.null g1 _ (ll L hL) s1
        exact ⟨g2, (lv.2.1 g g1 a1).trans a2, by rw [← List.append_assoc]; exact s2, zMfr_trans f1 f2⟩
    · refine Or.inr ⟨r', k2, fun h L hL s => ?_, fun g L hL s => ?_⟩
      · obtain ⟨h1, a1, s1, f1⟩ := A h L hL s
        obtain ⟨h2, a2, s2, f2⟩ := A2 0 Value.null h1 _ (Nat.zero_le _) (ll L hL) s1
        refine ⟨h2, ?_, s2, zCfr_trans f1 f2⟩
        rw [a89_in e hl a1, e60]; exact a2
      · obtain ⟨g1, a1, s1, f1⟩ := B g L hL s
        obtain ⟨g2, a2, s2, f2⟩ := B2 Value.null g1 _ (ll L hL) s1
        exact ⟨g2, (lv.2.1 g g1 a1).trans a2, s2, zMfr_trans f1 f2⟩
  · refine Or.inr ⟨r, r2, fun h L hL s => ?_, fun g L hL s => ?_⟩
    · obtain ⟨h1, a1, s1, f1⟩ := A h L hL s
      refine ⟨h1, ?_, s1, f1⟩
      rw [a89_in e hl a1, e60]
      exact a89_end e hl (by decide) (by decide) fun _ d => a86_f (by omega) s1 d
    · obtain ⟨g1, a1, s1, f1⟩ := B g L hL s
      exact ⟨g1, lv.1 g g1 a1, s1, f1⟩
/-- compared: at most one sign -/
theorem zJ_2 (hT : T ≤ 60) (ht : ∀ i, i < 60 → tp i < 256) (sub : ∀ p, p ≤ T → zZ tp T u (e + 8) 89 [.ref 73, .int (nI 3), .int (nI o)] (e' + 8) 147 [.ref 91] p o) : ∀ p, p ≤ T → zZ tp T u (e + 9) 89 [.ref 73, .int (nI 2), .int (nI o)] (e' + 9) 144 [.ref 91] p o := by
  intro p hp
  have hl : 2 < 5 := by decide
  have lv := zLv_2 (tp := tp) (T := T) (u := u) (o := o) e' hT ht
  have ls := zLw_2 (tp := tp) (T := T) (u := u) (o := o) e' hT ht
  have e60 : zlim 2 = 1 := rfl
  rcases sub p hp with ⟨r, t, ⟨r1, r2, r3, r4⟩, A, B⟩ | ⟨r, r2, A, B⟩
  · have ll : ∀ L : List (Int32 × Int32), L.length ≤ p → (L ++ t).length ≤ r := fun L hL => by rw [List.length_append]; omega
    by_cases z : r < T ∧ zin (sgl 2) (tp r) = true
    · obtain ⟨q, z⟩ := z
      have sg := zsgl hl (ht r (by omega)) z
      rcases sub (r + 1) (by omega) with ⟨r', t', ⟨k1, k2, k3, k4⟩, A2, B2⟩ | ⟨r', k2, A2, B2⟩
      · have en : zenc (zixu u) (nI 3, nI (tp r)) (nI (tp r)) (nI 0) := ⟨fun x => absurd x (show ¬ nI 3 = nI 0 by decide), fun x => absurd x (show ¬ nI 3 = nI 1 by decide), fun x => absurd x (show ¬ nI 3 = nI 2 by decide), fun _ => rfl⟩
        have ap : ∀ L : List (Int32 × Int32), L ++ (t ++ (t' ++ [(nI 3, nI (tp r))])) = L ++ t ++ t' ++ [(nI 3, nI (tp r))] := fun L => by
          rw [List.append_assoc, List.append_assoc]
        refine Or.inl ⟨r', t ++ (t' ++ [(nI 3, nI (tp r))]), ⟨by omega, k2, by rw [List.length_append, List.length_append]; show t.length + (t'.length + 1) + p ≤ r'; omega, zwfp_4 r4 k4 sg⟩, fun h L hL s => ?_, fun g L hL s => ?_⟩
        · obtain ⟨h1, a1, s1, f1⟩ := A h L hL s
          obtain ⟨s2, f2⟩ := zCs_at (q := r + 1) s1
          obtain ⟨h3, c3, s3, f3⟩ := A2 _ _ (by have := ll L hL; omega) s2
          obtain ⟨h4, c4, d1, d2, d3⟩ := c79 (e + 7) s3.2.2 (by rw [List.length_append]; have := ll L hL; omega) en
          have s4 := zCs_add s3 d1 d3
          refine ⟨h4, ?_, by rw [ap]; exact s4, zCfr_trans f1 (zCfr_trans f2 (zCfr_trans f3 ⟨fun a _ x y z => d3 a x y z, d2⟩))⟩
          rw [a89_in e hl a1, e60]
          exact (a89_step e hl (by decide) (by decide) hT ht q s1 z c3 c4).trans (a89_end e hl (by decide) (by decide) fun w => absurd w (by decide))
        · obtain ⟨g1, a1, s1, f1⟩ := B g L hL s
          obtain ⟨s2, f2⟩ := zMs_at (q := r + 1) s1
          obtain ⟨g3, c3, s3, f3⟩ := B2 _ _ (by have := ll L hL; omega) s2
          obtain ⟨g4, c4, s4, f4⟩ := c141 (e' + 7) (w := nI 3) (v := nI (tp r)) s3 (by rw [List.length_append]; have := ll L hL; omega)
          exact ⟨g4, (lv.2.1 g g1 a1).trans (ls r _ g1 g3 g4 _ q s1 z c3 c4), by rw [ap]; exact s4, zMfr_trans f1 (zMfr_trans f2 (zMfr_trans f3 f4))⟩
      · refine Or.inr ⟨r', k2, fun h L hL s => ?_, fun g L hL s => ?_⟩
        · obtain ⟨h1, a1, s1, f1⟩ := A h L hL s
          obtain ⟨s2, f2⟩ := zCs_at (q := r + 1) s1
          obtain ⟨h3, c3, s3, f3⟩ := A2 _ _ (by have := ll L hL; omega) s2
          obtain ⟨n, hn, en⟩ := s3.2.2.2.2
          obtain ⟨h4, n', c4, d0, d1, d2, d3⟩ := c79_f (e + 7) (sg := nI (tp r)) (op := nI 0) hn en
          have s4 := zFs_up s3 d0 d1 (d3 73 (by decide) (by decide) (by decide))
          refine ⟨h4, ?_, s4, zCfr_trans f1 (zCfr_trans f2 (zCfr_trans f3 ⟨fun a _ x y z => d3 a x y z, d2⟩))⟩
          rw [a89_in e hl a1, e60]
          exact (a89_step e hl (by decide) (by decide) hT ht q s1 z c3 c4).trans (a89_end e hl (by decide) (by decide) fun w => absurd w (by decide))
        · obtain ⟨g1, a1, s1, f1⟩ := B g L hL s
          obtain ⟨s2, f2⟩ := zMs_at (q := r + 1) s1
          obtain ⟨g3, c3, s3, f3⟩ := B2 _ _ (by have := ll L hL; omega) s2
          exact ⟨g3, (lv.2.1 g g1 a1).trans (lv.2.2.2 r _ g1 g3 _ q s1 z c3), s3, zMfr_trans f1 (zMfr_trans f2 f3)⟩
    · have zn : r < T → zin (sgl 2) (tp r) = false := fun q => by
        cases z' : zin (sgl 2) (tp r) with
        | false => rfl
        | true => exact absurd ⟨q, z'⟩ z
      refine Or.inl ⟨r, t, ⟨r1, r2, r3, r4⟩, fun h L hL s => ?_, fun g L hL s => ?_⟩
      · obtain ⟨h1, a1, s1, f1⟩ := A h L hL s
        refine ⟨h1, ?_, s1, f1⟩
        rw [a89_in e hl a1, e60]
        exact a89_end e hl (by decide) (by decide) fun _ d => a86_no hl hT ht r2 s1 zn d
      · obtain ⟨g1, a1, s1, f1⟩ := B g L hL s
        exact ⟨g1, (lv.2.1 g g1 a1).trans (lv.2.2.1 r _ g1 _ r2 s1 zn), s1, f1⟩
  · refine Or.inr ⟨r, r2, fun h L hL s => ?_, fun g L hL s => ?_⟩
    · obtain ⟨h1, a1, s1, f1⟩ := A h L hL s
      refine ⟨h1, ?_, s1, f1⟩
      rw [a89_in e hl a1, e60]
      exact a89_end e hl (by decide) (by decide) fun _ d => a86_f (by omega) s1 d
    · obtain ⟨g1, a1, s1, f1⟩ := B g L hL s
      exact ⟨g1, lv.1 g g1 a1, s1, f1⟩
theorem zJ_5 {D' : Nat} (sub : zZ tp T u (e + 9) 90 [.ref 73, .int (nI o)] D' 145 [.ref 91] p o) : zZ tp T u (e + 10) 89 [.ref 73, .int (nI 5), .int (nI o)] D' 145 [.ref 91] p o := by
  have n1 : ¬ nI 5 < nI 5 := by decide
  have w : ∀ h h1, zCf zT znl (e + 9) 90 [.ref 73, .int (nI o)] h = some (none, h1) → zCf zT znl (e + 10) 89 [.ref 73, .int (nI 5), .int (nI o)] h = some (none, h1) := fun h h1 c => by
    simp only [e89, q89_0, q89_1, q89_2, q89_5, q89_6, q89_7, q89_10, n1, c, rc_R, zn1_0, if_true, if_false, ↓reduceIte, Option.bind_some, Option.toList_some, Option.toList_none, List.cons_append, List.nil_append, zB_go, zB_end, zB_no, zokv_i, zokv_r, zokv_n, eq_self]
  rcases sub with ⟨q, t, r, A, B⟩ | ⟨q, r, A, B⟩
  · exact Or.inl ⟨q, t, r, fun h L hL s => by obtain ⟨h1, a, b⟩ := A h L hL s; exact ⟨h1, w _ _ a, b⟩, B⟩
  · exact Or.inr ⟨q, r, fun h L hL s => by obtain ⟨h1, a, b⟩ := A h L hL s; exact ⟨h1, w _ _ a, b⟩, B⟩
/-- all of it, by how many more brackets may be opened -/
theorem zJ_up (hT : T ≤ 60) (ht : ∀ i, i < 60 → tp i < 256) (Q : ∀ p, p ≤ T → zZ tp T u (e + 9) 90 [.ref 73, .int (nI o)] (e' + 9) 145 [.ref 91] p o) : ∀ p, p ≤ T → zZ tp T u (e + 15) 89 [.ref 73, .int (nI 0), .int (nI o)] (e' + 14) 148 [.ref 91] p o := by
  have j5 : ∀ p, p ≤ T → zZ tp T u (e + 10) 89 [.ref 73, .int (nI 5), .int (nI o)] (e' + 9) 145 [.ref 91] p o := fun p hp => zJ_5 e (Q p hp)
  have j4 := zJ_l (e + 2) (e' + 1) hT ht (by decide) (by decide) (zLv_4 (tp := tp) (T := T) (u := u) (o := o) (e' + 1) hT ht) (zLs_4 (tp := tp) (T := T) (u := u) (o := o) (e' + 1) hT ht) j5
  have j3 := zJ_l (e + 3) (e' + 2) hT ht (by decide) (by decide) (zLv_3 (tp := tp) (T := T) (u := u) (o := o) (e' + 2) hT ht) (zLs_3 (tp := tp) (T := T) (u := u) (o := o) (e' + 2) hT ht) j4
  have j2 := zJ_2 (e + 4) (e' + 3) hT ht j3
  have j1 := zJ_l (e + 5) (e' + 4) hT ht (by decide) (by decide) (zLv_1 (tp := tp) (T := T) (u := u) (o := o) (e' + 4) hT ht) (zLs_1 (tp := tp) (T := T) (u := u) (o := o) (e' + 4) hT ht) j2
  exact zJ_l (e + 6) (e' + 5) hT ht (by decide) (by decide) (zLv_0 (tp := tp) (T := T) (u := u) (o := o) (e' + 5) hT ht) (zLs_0 (tp := tp) (T := T) (u := u) (o := o) (e' + 5) hT ht) j1
theorem zJ_0 (hu : u < 2) (hT : T ≤ 60) (ht : ∀ i, i < 60 → tp i < 256) : ∀ (n o e e' : Nat), o + n = 5 → 7 * n ≤ e → 7 * n ≤ e' → ∀ p, p ≤ T → zZ tp T u (e + 9) 90 [.ref 73, .int (nI o)] (e' + 9) 145 [.ref 91] p o := by
  intro n
  induction n with
  | zero =>
    intro o e e' ho he he' p hp
    exact zQ e e' hu hT ht (by omega) hp (fun w => absurd w (by omega)) (fun w => absurd w (by omega))
  | succ n ih =>
    intro o e e' ho he he' p hp
    obtain ⟨e, rfl⟩ : ∃ k, e = k + 7 := ⟨e - 7, by omega⟩
    obtain ⟨e', rfl⟩ : ∃ k, e' = k + 7 := ⟨e' - 7, by omega⟩
    refine zQ (e + 7) (e' + 7) hu hT ht (by omega) hp (fun _ q => ih (o + 1) (e + 6) (e' + 6) (by omega) (by omega) (by omega) (p + 1) q) (fun _ q => ?_)
    exact zJ_up e (e' + 1) hT ht (ih (o + 1) e (e' + 1) (by omega) (by omega) (by omega)) (p + 1) q
end O95
