/-! ===== leaves: numbers ===== -/
theorem z01_0 : nI 0 = 0 ∨ nI 0 = 1 := Or.inl rfl
theorem z01_1 : nI 1 = 0 ∨ nI 1 = 1 := Or.inr rfl
theorem zn10 : ¬ nI 10 = 0 := by decide
theorem zn2 : ¬ nI 2 = 0 := by decide
theorem zn3 : ¬ nI 3 = 0 := by decide
theorem zn4 : ¬ nI 4 = 0 := by decide
theorem zn100 : ¬ nI 100 = 0 := by decide
/-- two ends that differ by the answer alone -/
theorem zpi {c : Prop} [Decidable c] {a b : Int32} {h : zH} : (if c then some (some (Value.int a), h) else some (some (Value.int b), h)) = some (some (Value.int (if c then a else b)), h) := by
  split <;> rfl
def zwi (v lo hi : Int32) : Int32 := if v < lo then nI 0 else if hi < v then nI 0 else nI 1
def zabs (x : Int32) : Int32 := if nI 0 ≤ x then x else -x
def zmax (x y : Int32) : Int32 := if x < y then y else x
def zmin (x y : Int32) : Int32 := if y < x then y else x
def zheld (v lo hi : Int32) : Int32 := zmax lo (zmin hi v)
def zsgn (v : Int32) : Int32 := if v ≤ nI 0 then (if nI 0 ≤ v then nI 0 else (-1)) else nI 1
def zdis (a b : Int32) : Int32 := zabs (a % nI 10 - b % nI 10) + zabs (a / nI 10 - b / nI 10)
theorem zwi_01 {x y z : Int32} : zwi x y z = 0 ∨ zwi x y z = 1 := by
  unfold zwi
  split
  · exact Or.inl rfl
  · split
    · exact Or.inl rfl
    · exact Or.inr rfl
section LEAF
variable (d : Nat) (h : zH) (x y z : Int32)
theorem c0 : zCf zT znl (d + 1) 0 [.int x, .int y, .int z] h = some (some (.int (zwi x y z)), h) := by
  simp only [e0, q0_0, q0_1, q0_2, q0_5, q0_6, q0_7, q0_10, q0_11, q0_14, q0_15, z01_0, z01_1, zpi]
  rfl
theorem c204 : zCf zT znl (d + 1) 204 [.int x] h = some (some (.int (zabs x)), h) := by
  simp only [e204, q204_0, q204_1, q204_4, q204_5, q204_6, q204_9, q204_10, zpi]
  rfl
theorem c205 : zCf zT znl (d + 1) 205 [.int x, .int y] h = some (some (.int (zmax x y)), h) := by
  simp only [e205, q205_0, q205_1, q205_2, q205_5, q205_6, q205_9, q205_10, zpi]
  rfl
theorem c206 : zCf zT znl (d + 1) 206 [.int x, .int y] h = some (some (.int (zmin x y)), h) := by
  simp only [e206, q206_0, q206_1, q206_2, q206_5, q206_6, q206_9, q206_10, zpi]
  rfl
theorem c4 : zCf zT znl (d + 2) 4 [.int x, .int y, .int z] h = some (some (.int (zheld x y z)), h) := by
  simp only [e4, q4_0, q4_1, q4_2, q4_3, q4_6, q4_9, c205, c206, Option.bind_some, Option.toList_some, Option.toList_none, List.cons_append, List.nil_append, zB_go, zB_end, zB_no]
  rfl
theorem c2 : zCf zT znl (d + 1) 2 [.int x] h = some (some (.int (zsgn x)), h) := by
  simp only [e2, q2_0, q2_1, q2_4, q2_5, q2_8, q2_9, q2_12, q2_13, q2_16, q2_17, zpi]
  rfl
theorem c1 : zCf zT znl (d + 2) 1 [.int x, .int y] h = some (some (.int (zdis x y)), h) := by
  simp only [e1, q1_0, q1_1, q1_3, q1_4, q1_5, q1_7, q1_8, q1_9, q1_10, q1_11, q1_13, q1_14, q1_15, q1_17, q1_18, q1_19, q1_20, q1_21, q1_24, q1_25, q1_28, q1_29, zn10, not_false_eq_true, zokv, c204, Option.bind_some, Option.toList_some, Option.toList_none, List.cons_append, List.nil_append, zB_go, zB_end, zB_no]
  rfl
theorem c5 : zCf zT znl (d + 2) 5 [.int x] h = some (some (.int (zwi x (nI 0) (nI 79))), h) := by
  simp only [e5, q5_0, q5_1, q5_2, q5_4, q5_7, c0, zwi_01, Option.bind_some, Option.toList_some, Option.toList_none, List.cons_append, List.nil_append, zB_go, zB_end, zB_no]
  rfl
end LEAF
