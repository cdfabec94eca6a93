/-! ===== leaves: numbers ===== -/
theorem zokv_i (x : Int32) : (zokv (.int x) = true) = True := eq_true rfl
theorem zokv_r (x : Nat) : (zokv (.ref x) = true) = True := eq_true rfl
theorem zokv_n : (zokv Value.null = true) = True := eq_true rfl
theorem z01_0 : nI 0 = 0 ∨ nI 0 = 1 := Or.inl rfl
theorem z01_1 : nI 1 = 0 ∨ nI 1 = 1 := Or.inr rfl
theorem zn10 : ¬ nI 10 = 0 := by decide
theorem zn2 : ¬ nI 2 = 0 := by decide
theorem zn3 : ¬ nI 3 = 0 := by decide
theorem zn4 : ¬ nI 4 = 0 := by decide
theorem zn100 : ¬ nI 100 = 0 := by decide
/-- two ends that differ by the answer alone -/
theorem zpi {c : Prop} [Decidable c] {a b : Int32} {h : zH} : (if c then some (some (Value.int a), h) else some (some (Value.int b), h)) = some (some (Value.int (if c then a else b)), h) := by
  split <;> rfl
def zwi (v lo hi : Int32) : Int32 := if v < lo then nI 0 else if hi < v then nI 0 else nI 1
def zabs (x : Int32) : Int32 := if nI 0 ≤ x then x else -x
def zmax (x y : Int32) : Int32 := if x < y then y else x
def zmin (x y : Int32) : Int32 := if y < x then y else x
def zheld (v lo hi : Int32) : Int32 := zmax lo (zmin hi v)
def zsgn (v : Int32) : Int32 := if v ≤ nI 0 then (if nI 0 ≤ v then nI 0 else (-1)) else nI 1
def zdis (a b : Int32) : Int32 := zabs (a % nI 10 - b % nI 10) + zabs (a / nI 10 - b / nI 10)
theorem zwi_01 {x y z : Int32} : zwi x y z = 0 ∨ zwi x y z = 1 := by
  unfold zwi
  split
  · exact Or.inl rfl
  · split
    · exact Or.inl rfl
    · exact Or.inr rfl
section LEAF
variable (d : Nat) (h : zH) (x y z : Int32)
theorem c0 : zCf zT znl (d + 1) 0 [.int x, .int y, .int z] h = some (some (.int (zwi x y z)), h) := by
  simp only [e0, q0_0, q0_1, q0_2, q0_5, q0_6, q0_7, q0_10, q0_11, q0_14, q0_15, z01_0, z01_1, zpi]
  rfl
theorem c204 : zCf zT znl (d + 1) 204 [.int x] h = some (some (.int (zabs x)), h) := by
  simp only [e204, q204_0, q204_1, q204_4, q204_5, q204_6, q204_9, q204_10, zpi]
  rfl
theorem c205 : zCf zT znl (d + 1) 205 [.int x, .int y] h = some (some (.int (zmax x y)), h) := by
  simp only [e205, q205_0, q205_1, q205_2, q205_5, q205_6, q205_9, q205_10, zpi]
  rfl
theorem c206 : zCf zT znl (d + 1) 206 [.int x, .int y] h = some (some (.int (zmin x y)), h) := by
  simp only [e206, q206_0, q206_1, q206_2, q206_5, q206_6, q206_9, q206_10, zpi]
  rfl
theorem c4 : zCf zT znl (d + 2) 4 [.int x, .int y, .int z] h = some (some (.int (zheld x y z)), h) := by
  simp only [e4, q4_0, q4_1, q4_2, q4_3, q4_6, q4_9, c205, c206, Option.bind_some, Option.toList_some, Option.toList_none, List.cons_append, List.nil_append, zB_go, zB_end, zB_no, zokv_i, zokv_r, zokv_n, eq_self]
  rfl
theorem c2 : zCf zT znl (d + 1) 2 [.int x] h = some (some (.int (zsgn x)), h) := by
  simp only [e2, q2_0, q2_1, q2_4, q2_5, q2_8, q2_9, q2_12, q2_13, q2_16, q2_17, zpi]
  rfl
theorem c1 : zCf zT znl (d + 2) 1 [.int x, .int y] h = some (some (.int (zdis x y)), h) := by
  simp only [e1, q1_0, q1_1, q1_3, q1_4, q1_5, q1_7, q1_8, q1_9, q1_10, q1_11, q1_13, q1_14, q1_15, q1_17, q1_18, q1_19, q1_20, q1_21, q1_24, q1_25, q1_28, q1_29, zn10, not_false_eq_true, c204, Option.bind_some, Option.toList_some, Option.toList_none, List.cons_append, List.nil_append, zB_go, zB_end, zB_no, zokv_i, zokv_r, zokv_n, eq_self]
  rfl
theorem c5 : zCf zT znl (d + 2) 5 [.int x] h = some (some (.int (zwi x (nI 0) (nI 79))), h) := by
  simp only [e5, q5_0, q5_1, q5_2, q5_4, q5_7, c0, zwi_01, Option.bind_some, Option.toList_some, Option.toList_none, List.cons_append, List.nil_append, zB_go, zB_end, zB_no, zokv_i, zokv_r, zokv_n, eq_self]
theorem c37 : zCf zT znl (d + 2) 37 [.int x] h = some (some (.int (zwi x (nI 0) (nI 3))), h) := by
  simp only [e37, q37_0, q37_1, q37_2, q37_3, q37_6, c0, zwi_01, Option.bind_some, Option.toList_some, Option.toList_none, List.cons_append, List.nil_append, zB_go, zB_end, zB_no, zokv_i, zokv_r, zokv_n, eq_self]
theorem c12 : zCf zT znl (d + 1) 12 [.ref 0, .int x] h = some (some (.int (if x < nI 0 then nI 0 else if h 1 12 ≤ x then nI 0 else nI 1)), h) := by
  simp only [e12, q12_0, q12_1, q12_4, q12_5, q12_6, q12_9, q12_12, q12_15, q12_16, q12_19, q12_20, gf_L0, gf_W12 zW_1, z01_0, z01_1, zpi, Option.bind_some, Option.toList_some, Option.toList_none, List.cons_append, List.nil_append, zB_go, zB_end, zB_no, zokv_i, zokv_r, zokv_n, eq_self]
theorem c6 {k : Nat} (hk : k < 7) : zCf zT znl (d + 1) 6 [.ref 0, .int (nI k)] h = some (some (.int ((-1000000) - nI k)), zup h 90 k (h 90 k + nI 1)) := by
  simp only [e6, q6_0, q6_1, q6_4, q6_5, q6_6, q6_7, q6_8, q6_9, q6_10, q6_13, q6_14, q6_15, gf_L7, ald_n90 hk, ast_n90 hk, Option.bind_some, Option.toList_some, Option.toList_none, List.cons_append, List.nil_append, zB_go, zB_end, zB_no, zokv_i, zokv_r, zokv_n, eq_self]
theorem c107 : zCf zT znl (d + 1) 107 [.int x, .int y, .int z] h = some (some (.int (zwi x y z)), h) := by
  simp only [e107, q107_0, q107_1, q107_2, q107_5, q107_6, q107_7, q107_10, q107_11, q107_14, q107_15, z01_0, z01_1, zpi]
  rfl
theorem c108 : zCf zT znl (d + 1) 108 [.int x, .int y, .int z] h = some (some (.int (if y ≤ x then if x ≤ z then x else z else y)), h) := by
  simp only [e108, q108_0, q108_1, q108_2, q108_5, q108_6, q108_9, q108_10, q108_11, q108_14, q108_15, q108_18, q108_19, zpi]
theorem c110 : zCf zT znl (d + 2) 110 [.int x] h = some (some (.int (zwi x (nI 0) (nI 79))), h) := by
  simp only [e110, q110_0, q110_1, q110_2, q110_4, q110_7, c107, zwi_01, Option.bind_some, Option.toList_some, Option.toList_none, List.cons_append, List.nil_append, zB_go, zB_end, zB_no, zokv_i, zokv_r, zokv_n, eq_self]
theorem c113 : zCf zT znl (d + 1) 113 [.int x] h = some (some (.int (zabs x)), h) := by
  unfold zabs
  simp only [e113, q113_0, q113_1, q113_4, q113_5, q113_6, q113_9, q113_10, zpi]
theorem c106 {k : Nat} (hk : k < 7) : zCf zT znl (d + 1) 106 [.ref 91, .int (nI k)] h = some (some (.int ((-1000000) - nI k)), zup h 95 k (h 95 k + nI 1)) := by
  simp only [e106, q106_0, q106_1, q106_4, q106_5, q106_6, q106_7, q106_8, q106_9, q106_10, q106_12, q106_13, q106_14, gf_M4, ald_n95 hk, ast_n95 hk, Option.bind_some, Option.toList_some, Option.toList_none, List.cons_append, List.nil_append, zB_go, zB_end, zB_no, zokv_i, zokv_r, zokv_n, eq_self]
theorem c111 : zCf zT znl (d + 2) 111 [.ref 91, .int x] h = some (some (.int (zwi x (nI 0) (h 92 0 - nI 1))), h) := by
  simp only [e111, q111_0, q111_1, q111_2, q111_3, q111_6, q111_7, q111_8, q111_9, q111_10, q111_13, gf_M0, ald_n92 (show 0 < 488 by decide), c107, zwi_01, Option.bind_some, Option.toList_some, Option.toList_none, List.cons_append, List.nil_append, zB_go, zB_end, zB_no, zokv_i, zokv_r, zokv_n, eq_self]
theorem c112 {k j : Nat} (hk : k < 8) (hj : j < 8) : zCf zT znl (d + 1) 112 [.ref 91, .int (nI k), .int (nI j)] h = some (some (.int (h 92 (90 + 8 * k + j))), h) := by
  simp only [e112, q112_0, q112_1, q112_4, q112_6, q112_8, q112_9, q112_10, q112_11, q112_12, q112_13, q112_14, gf_M0, pk_mul, nI_add, ald_n92 (show 90 + 8 * k + j < 488 by omega), Option.bind_some, Option.toList_some, Option.toList_none, List.cons_append, List.nil_append, zB_go, zB_end, zB_no, zokv_i, zokv_r, zokv_n, eq_self]
end LEAF
