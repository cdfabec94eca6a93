/-! ===== a coin's week ===== -/
def zcoin (x : Int32) : Int32 := x * nI 1103515245 + nI 12345
def zshr (x : Int32) : Int32 := (x.toUInt32 >>> ((nI 8).toUInt32 &&& Int32.toUInt32 31)).toInt32
theorem zshr_n (x : Int32) : ∃ m, m < 2 ^ 24 ∧ zshr x = nI m := by
  refine ⟨x.toUInt32.toNat / 2 ^ 8, ?_, ?_⟩
  · have := x.toUInt32.toNat_lt
    omega
  · unfold zshr
    have e : ((nI 8).toUInt32 &&& Int32.toUInt32 31) = 8 := by decide
    rw [e]
    have t : UInt32.ofNat (x.toUInt32.toNat / 2 ^ 8) = x.toUInt32 >>> 8 := by
      apply UInt32.toNat_inj.mp
      have := x.toUInt32.toNat_lt
      rw [UInt32.toNat_shiftRight, UInt32.toNat_ofNat, Nat.shiftRight_eq_div_pow]
      exact Nat.mod_eq_of_lt (by omega)
    rw [← t]
    rfl
theorem zrem_n {m N : Nat} (hm : m < 2 ^ 24) (h0 : 0 < N) (hN : N ≤ 8) : nI m % nI N = nI (m % N) := by
  have t : ∀ n, n < 2 ^ 31 → (nI n).toInt = (n : Int) := fun n hn => by
    unfold nI
    exact Int32.toInt_ofNat_of_lt hn
  apply Int32.toInt_inj.mp
  rw [Int32.toInt_mod, t m (by omega), t N (by omega), t _ (by have := Nat.mod_lt m h0; omega)]
  rfl
def zc5 (s : Nat → Int32) : Nat → Int32 := zud s 5 (zcoin (s 5))
def zcm (s : Nat → Int32) : Int32 := if zmayv s = nI 0 then s 1 else zgf s (zshr (s 5) % s 0)
/-- a coin's week -/
def zcw (s : Nat → Int32) : Nat → Int32 := zends (zud (zc5 s) 1 (zcm (zc5 s)))
theorem zcb {s : Nat → Int32} {N mk : Nat} (h0 : 0 < N) (z : zJ s N mk) : ∃ i, i < N ∧ zshr (s 5) % s 0 = nI i := by
  obtain ⟨m, hm, em⟩ := zshr_n (s 5)
  rw [em, z.1, zrem_n hm h0 z.2.1]
  exact ⟨_, Nat.mod_lt _ h0, rfl⟩
theorem zcm_n {s : Nat → Int32} {N mk : Nat} (h0 : 0 < N) (z : zJ s N mk) : ∃ m, m < 80 ∧ zcm s = nI m := by
  unfold zcm
  split
  · exact ⟨mk, z.2.2.2.1, z.2.2.1⟩
  · exact zgf_n z (Or.inr (zcb h0 z))
theorem zJ_cw {s : Nat → Int32} {N mk : Nat} (h0 : 0 < N) (z : zJ s N mk) : ∃ m, zJ (zud (zc5 s) 1 (zcm (zc5 s))) N m ∧ zJ (zcw s) N m := by
  have z5 : zJ (zc5 s) N mk := zJ_udx (by decide) (by decide) z
  obtain ⟨m, hm, em⟩ := zcm_n h0 z5
  have a : zJ (zud (zc5 s) 1 (zcm (zc5 s))) N m := by rw [em]; exact zJ_ud1 hm z5
  exact ⟨m, a, zJ_ends a⟩
theorem zcw_lo {s : Nat → Int32} {i : Nat} (hi : i < 90) (h1 : i ≠ 1) (h2 : i ≠ 2) (h5 : i ≠ 5) : zcw s i = s i := by
  unfold zcw zc5
  rw [zends_lo hi h2, zud_ne h1, zud_ne h5]
section CO
variable (d : Nat)
theorem c158 {h : zH} : zCf zT znl (d + 1) 158 [.ref 91] h = some (some (.int (zshr (zcoin (h 92 5)))), zup h 92 5 (zcoin (h 92 5))) := by
  simp only [e158, q158_0, q158_1, q158_4, q158_5, q158_6, q158_9, q158_10, q158_11, q158_13, q158_14, q158_17, q158_18, q158_19, q158_20, q158_23, q158_24, q158_25, q158_27, q158_28, gf_M0, ald_n92 (show 5 < 488 by decide), ast_n92 (show 5 < 488 by decide), zup_at, Option.bind_some, Option.toList_some, Option.toList_none, List.cons_append, List.nil_append, zB_go, zB_end, zB_no, zokv_i, zokv_r, zokv_n, eq_self]
  rfl
theorem c159 {h : zH} {N mk q : Nat} (h0 : 0 < N) (hq : q < 100) (z : zJ (h 92) N mk) (h7 : h 92 7 = nI q) : ∃ h', zCf zT znl (d + 6) 159 [.ref 91] h = some (none, h') ∧ h' 92 = zcw (h 92) ∧ ∀ a, a ≠ 92 → h' a = h a := by
  have z5 : zJ (zc5 (h 92)) N mk := zJ_udx (by decide) (by decide) z
  obtain ⟨i, hi, ei⟩ := zcb h0 z5
  have k5 : zup h 92 5 (zcoin (h 92 5)) 92 = zc5 (h 92) := zup_ud ..
  have s5 : zc5 (h 92) 5 = zcoin (h 92 5) := zud_at ..
  obtain ⟨m', a1, a2⟩ := zJ_cw h0 z
  rw [s5, z5.1] at ei
  have hn0 : ¬ (nI N = 0) := fun y => by
    have := congrArg Int32.toNatClampNeg y
    rw [nI_clamp (by have := z.2.1; omega)] at this
    exact absurd this (by show ¬ (N = 0); omega)
  have k1 : zup (zup h 92 5 (zcoin (h 92 5))) 92 1 (zcm (zc5 (h 92))) 92 = zud (zc5 (h 92)) 1 (zcm (zc5 (h 92))) := by rw [zup_ud, k5]
  have c6 := c156 d (h := zup (zup h 92 5 (zcoin (h 92 5))) 92 1 (zcm (zc5 (h 92)))) hq (by rw [k1]; exact a1) (by rw [k1]; exact h7)
  rw [k1] at c6
  have c4 := fun d => c154 d (h := zup h 92 5 (zcoin (h 92 5))) (mk := mk) (by rw [k5]; exact z5.2.2.1) z5.2.2.2.1
  rw [k5] at c4
  refine ⟨fun a => if a = 92 then zends (zud (zc5 (h 92)) 1 (zcm (zc5 (h 92)))) else zup (zup h 92 5 (zcoin (h 92 5))) 92 1 (zcm (zc5 (h 92))) a, ?_, if_pos rfl, fun a ha => ?_⟩
  · obtain ⟨kd, m, t, v, ho, g, hu, l0, l1, l2, l3, l4, l5, l7, p0, p1, p2, p3, p4, p5, p7⟩ := z5.2.2.2.2.1 i (by have := z.2.1; omega)
    have c2 := c127 (d + 2) (h := zup h 92 5 (zcoin (h 92 5))) z5.2.2.2.1 l2 false
    rw [if_neg (by decide), k5] at c2
    have hx : zcm (zc5 (h 92)) = if zmayv (zc5 (h 92)) = nI 0 then zc5 (h 92) 1 else zgf (zc5 (h 92)) (nI i) := by
      unfold zcm; rw [s5, z5.1, ei]
    have a : ¬ (nI i = -1) := fun y => (nI_nlt (Nat.zero_le i) (by have := z.2.1; omega) : ¬ (nI i < nI 0)) (by rw [y]; decide)
    have hy : zgf (zc5 (h 92)) (nI i) = nI (ngo (zc5 (h 92)) mk t false) := by
      unfold zgf
      rw [if_neg a, zn_of z5.2.2.1 (by have := z5.2.2.2.1; omega), nI_clamp (by have := z.2.1; omega), zn_of p2 (by omega)]
    have hm5 := z5.2.2.1
    rcases zmayv_01 (zc5 (h 92)) with y | y
    · have hz : zcm (zc5 (h 92)) = zc5 (h 92) 1 := by rw [hx, if_pos y]
      rw [hz] at c6 ⊢
      simp only [e159, q159_0, q159_1, q159_4, q159_5, q159_8, q159_9, q159_10, q159_11, q159_12, q159_13, q159_16, q159_17, q159_18, q159_21, q159_24, q159_25, q159_26, q159_29, q159_30, q159_31, q159_32, q159_33, q159_34, q159_37, q159_38, q159_41, q159_44, q159_45, q159_48, q159_49, q159_50, q159_51, q159_52, q159_55, gf_M0, c158, k5, ald_n92 (show 0 < 488 by decide), ald_n92 (show 1 < 488 by decide), ast_n92 (show 1 < 488 by decide), z5.1, hn0, not_false_eq_true, ei, c4, y, c6, rc_M, if_true, if_false, Option.bind_some, Option.toList_some, Option.toList_none, List.cons_append, List.nil_append, zB_go, zB_end, zB_no, zokv_i, zokv_r, zokv_n, eq_self]
    · have hz : zcm (zc5 (h 92)) = nI (ngo (zc5 (h 92)) mk t false) := by rw [hx, if_neg (by rw [y]; decide), hy]
      rw [hz] at c6 ⊢
      simp only [e159, q159_0, q159_1, q159_4, q159_5, q159_8, q159_9, q159_10, q159_11, q159_12, q159_13, q159_16, q159_17, q159_18, q159_21, q159_24, q159_25, q159_26, q159_29, q159_30, q159_31, q159_32, q159_33, q159_34, q159_37, q159_38, q159_41, q159_44, q159_45, q159_48, q159_49, q159_50, q159_51, q159_52, q159_55, gf_M0, c158, k5, ald_n92 (show 0 < 488 by decide), ald_n92 (show 1 < 488 by decide), ast_n92 (show 1 < 488 by decide), z5.1, hn0, not_false_eq_true, ei, c4, c2, hm5, p2, c112 _ _ (show i < 8 by have := z.2.1; omega) (show 2 < 8 by decide), y, zn1_0, c6, rc_M, if_true, if_false, Option.bind_some, Option.toList_some, Option.toList_none, List.cons_append, List.nil_append, zB_go, zB_end, zB_no, zokv_i, zokv_r, zokv_n, eq_self]
  · show (if a = 92 then zends (zud (zc5 (h 92)) 1 (zcm (zc5 (h 92)))) else zup (zup h 92 5 (zcoin (h 92 5))) 92 1 (zcm (zc5 (h 92))) a) = h a
    rw [if_neg ha, zup_row_ne ha, zup_row_ne ha]
end CO
