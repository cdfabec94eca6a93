/-! ===== ways between cells ===== -/
def nfar (a b : Nat) : Nat := (a % 10 - b % 10) + (b % 10 - a % 10) + (a / 10 - b / 10) + (b / 10 - a / 10)
theorem zdis_n : ∀ a, a < 80 → ∀ b, b < 80 → zdis (nI a) (nI b) = nI (nfar a b) := by decide +kernel
theorem nfar_comm (a b : Nat) : nfar a b = nfar b a := by unfold nfar; omega
theorem nfar_lt : ∀ a, a < 80 → ∀ b, b < 80 → nfar a b < 17 := by decide +kernel
theorem nfar_0 : ∀ a, a < 80 → ∀ b, b < 80 → (nfar a b = 0 ↔ a = b) := by decide +kernel
def nr1 (f t : Nat) : Nat := if f % 10 < t % 10 then f + 1 else if t % 10 < f % 10 then f - 1 else f
def nc1 (f t : Nat) : Nat := if f / 10 < t / 10 then f + 10 else if t / 10 < f / 10 then f - 10 else f
def nrf (f t : Nat) : Bool := decide ((t / 10 - f / 10) + (f / 10 - t / 10) ≤ (t % 10 - f % 10) + (f % 10 - t % 10))
def nw1 (f t : Nat) : Nat := if nrf f t then nr1 f t else nc1 f t
def nw2 (f t : Nat) : Nat := if nrf f t then nc1 f t else nr1 f t
/-- where one goes from f for t; s: the row with the land from 10 on -/
def ngo (s : Nat → Int32) (f t : Nat) (over : Bool) : Nat :=
  if nw1 f t ≠ f ∧ (over = true ∨ s (10 + nw1 f t) ≠ nI 1) then nw1 f t else if nw2 f t ≠ f ∧ (over = true ∨ s (10 + nw2 f t) ≠ nI 1) then nw2 f t else f
theorem nw_lt : ∀ f, f < 80 → ∀ t, t < 80 → nw1 f t < 80 ∧ nw2 f t < 80 := by decide +kernel
theorem ngo_lt {s : Nat → Int32} {f t : Nat} {o : Bool} (hf : f < 80) (ht : t < 80) : ngo s f t o < 80 := by
  have := nw_lt f hf t ht
  unfold ngo
  split
  · exact this.1
  · split
    · exact this.2
    · exact hf
theorem wy_r : ∀ f, f < 80 → ∀ t, t < 80 → nI f + zsgn (nI t % nI 10 - nI f % nI 10) = nI (nr1 f t) := by decide +kernel
theorem wy_c : ∀ f, f < 80 → ∀ t, t < 80 → nI f + nI 10 * zsgn (nI t / nI 10 - nI f / nI 10) = nI (nc1 f t) := by decide +kernel
theorem wy_f : ∀ f, f < 80 → ∀ t, t < 80 → (zabs (nI t / nI 10 - nI f / nI 10) ≤ zabs (nI t % nI 10 - nI f % nI 10) ↔ nrf f t = true) := by decide +kernel
def zstep (x y w : Int32) : Int32 := if w = nI 1 then (if y % nI 10 - x % nI 10 ≤ nI 0 then (if nI 0 ≤ y % nI 10 - x % nI 10 then nI 0 else -w) else w) else (if y / nI 10 - x / nI 10 ≤ nI 0 then (if nI 0 ≤ y / nI 10 - x / nI 10 then nI 0 else -w) else w)
theorem sy_r : ∀ f, f < 80 → ∀ t, t < 80 → nI f + zstep (nI f) (nI t) (nI 1) = nI (nr1 f t) ∧ (zstep (nI f) (nI t) (nI 1) = nI 0 ↔ nr1 f t = f) := by decide +kernel
theorem sy_c : ∀ f, f < 80 → ∀ t, t < 80 → nI f + zstep (nI f) (nI t) (nI 10) = nI (nc1 f t) ∧ (zstep (nI f) (nI t) (nI 10) = nI 0 ↔ nc1 f t = f) := by decide +kernel
section WAY
variable (d : Nat) (h : zH) (x y z : Int32)
theorem c114 : zCf zT znl (d + 2) 114 [.int x, .int y] h = some (some (.int (zdis x y)), h) := by
  unfold zdis
  simp only [e114, q114_0, q114_1, q114_3, q114_4, q114_5, q114_7, q114_8, q114_9, q114_12, q114_13, q114_15, q114_16, q114_17, q114_19, q114_20, q114_21, q114_24, q114_25, zn10, not_false_eq_true, c113, Option.bind_some, Option.toList_some, Option.toList_none, List.cons_append, List.nil_append, zB_go, zB_end, zB_no, zokv_i, zokv_r, zokv_n, eq_self]
theorem c115 {c : Nat} (hc : c < 478) : zCf zT znl (d + 1) 115 [.ref 91, .int (nI c)] h = some (some (.int (if h 92 (10 + c) = nI 1 then nI 1 else nI 0)), h) := by
  simp only [e115, q115_0, q115_1, q115_4, q115_6, q115_7, q115_8, q115_9, q115_10, q115_13, q115_14, q115_17, q115_18, gf_M0, nI_add, ald_n92 (show 10 + c < 488 by omega), z01_0, z01_1, zpi, Option.bind_some, Option.toList_some, Option.toList_none, List.cons_append, List.nil_append, zB_go, zB_end, zB_no, zokv_i, zokv_r, zokv_n, eq_self]
theorem c125 : zCf zT znl (d + 1) 125 [.int x, .int y, .int z] h = some (some (.int (zstep x y z)), h) := by
  unfold zstep
  simp only [e125, q125_0, q125_1, q125_2, q125_5, q125_6, q125_8, q125_9, q125_10, q125_12, q125_13, q125_14, q125_17, q125_18, q125_20, q125_21, q125_22, q125_24, q125_25, q125_26, q125_27, q125_28, q125_31, q125_32, q125_35, q125_36, q125_39, q125_40, q125_41, q125_44, q125_45, zn10, not_false_eq_true, zpi, Option.bind_some, Option.toList_some, Option.toList_none, List.cons_append, List.nil_append, zB_go, zB_end, zB_no, zokv_i, zokv_r, zokv_n, eq_self]
end WAY
