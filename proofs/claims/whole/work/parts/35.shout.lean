/-! ===== shouts ===== -/
def zn (s : Nat → Int32) (i : Nat) : Nat := (s i).toNatClampNeg
theorem zn_of {s : Nat → Int32} {i n : Nat} (h : s i = nI n) (hn : n < 2 ^ 31) : zn s i = n := by unfold zn; rw [h, nI_clamp hn]
def zfar (s : Nat → Int32) (k : Nat) : Int32 := zdis (s 1) (s (90 + 8 * k + 2))
def zvo (s : Nat → Int32) (k : Nat) : Int32 := s (90 + 8 * k + 3) - s (90 + 8 * k + 4)
def zloud (s : Nat → Int32) (k : Nat) : Int32 := if zfar s k = nI 0 then nI 0 else zvo s k
def zwo (s : Nat → Int32) (k c : Nat) : Nat := nworth (zn s (90 + 8 * k + 5)) (zn s (90 + 8 * k + 1)) (zn s (90 + 8 * k + 2)) c
def zgain (s : Nat → Int32) (k : Nat) : Int32 := nI (zwo s k (ngo s (zn s 1) (zn s (90 + 8 * k + 2)) false)) - nI (zwo s k (zn s 1))
def zplain (s : Nat → Int32) (k : Nat) : Int32 :=
  if zn s (90 + 8 * k) = 1 then zloud s k
  else if zn s (90 + 8 * k) = 2 then (if zfar s k ≤ nI 3 then zvo s k else nI 0)
  else if zn s (90 + 8 * k) = 3 then zloud s k + s (90 + 8 * k + 1) * nI (zcnt s k 0 (zn s 0))
  else if zn s (90 + 8 * k) = 4 then (if s 2 % nI 4 = s (90 + 8 * k + 1) % nI 4 then zloud s k else nI 0)
  else if zn s (90 + 8 * k) = 5 then zcalled s k
  else if zn s (90 + 8 * k) = 6 then (if zcost s k (zhl (zloud s k) (nI 0) (nI 99)) ≤ zgain s k then zloud s k else nI 0)
  else nI 0
def zshout (s : Nat → Int32) (k : Nat) : Int32 := if s (90 + 8 * k + 7) = nI 1 then nI 0 else zhl (zplain s k) (nI 0) (nI 99)
/-- a place's row -/
def zP (s : Nat → Int32) (k : Nat) : Prop := ∃ kd m hm v ho g hu : Nat, kd < 7 ∧ m < 100 ∧ hm < 80 ∧ v < 100 ∧ ho < 100 ∧ g < 100 ∧ hu < 2 ∧ s (90 + 8 * k) = nI kd ∧ s (90 + 8 * k + 1) = nI m ∧ s (90 + 8 * k + 2) = nI hm ∧ s (90 + 8 * k + 3) = nI v ∧ s (90 + 8 * k + 4) = nI ho ∧ s (90 + 8 * k + 5) = nI g ∧ s (90 + 8 * k + 7) = nI hu
theorem zhl_99 (x : Int32) : ∃ n, n < 100 ∧ zhl x (nI 0) (nI 99) = nI n := by
  unfold zhl
  by_cases a : nI 0 ≤ x
  · rw [if_pos a]
    by_cases b : x ≤ nI 99
    · rw [if_pos b]
      obtain ⟨j, h1, h2⟩ := nI_of2 (x := x) (M := nI 99) (n := 99) (by decide) (Int32.not_lt.mpr a) b
      exact ⟨j, by omega, h2⟩
    · rw [if_neg b]; exact ⟨99, by decide, rfl⟩
  · rw [if_neg a]; exact ⟨0, by decide, rfl⟩
theorem zshout_n (s : Nat → Int32) (k : Nat) : ∃ n, n < 100 ∧ zshout s k = nI n := by
  unfold zshout
  split
  · exact ⟨0, by decide, rfl⟩
  · exact zhl_99 _
theorem zXif {TT : Nat → Nat → zO} {nl : Nat → Nat} {d k pc : Nat} {c : Prop} [Decidable c] {lo : zL} {st : List Value} {h : zH} {a b : Int32} : (if c then zXf TT nl d k pc lo (.int a :: st) h else zXf TT nl d k pc lo (.int b :: st) h) = zXf TT nl d k pc lo (.int (if c then a else b) :: st) h := by split <;> rfl
section SH
variable (d : Nat) (h : zH)
theorem c108z (x y z : Int32) : zCf zT znl (d + 1) 108 [.int x, .int y, .int z] h = some (some (.int (zhl x y z)), h) := c108 d h x y z
theorem c130_0 {k : Nat} (hk : k < 8) : zCf zT znl (d + 4) 130 [.ref 91, .int (nI k)] h = zXf zT znl (d + 3) 130 41 [.ref 91, .int (nI k), .int (zfar (h 92) k), .int (zvo (h 92) k), .int (zloud (h 92) k), .null, .null] [] h := by
  simp only [e130, q130_0, q130_1, q130_4, q130_5, q130_6, q130_7, q130_8, q130_9, q130_12, q130_15, q130_16, q130_17, q130_18, q130_19, q130_22, q130_23, q130_24, q130_25, q130_28, q130_29, q130_30, q130_31, q130_34, q130_35, q130_38, gf_M0, ald_n92 (show 1 < 488 by decide), c112 _ _ hk (show 2 < 8 by decide), c112 _ _ hk (show 3 < 8 by decide), c112 _ _ hk (show 4 < 8 by decide), c114, rc_M, Option.bind_some, Option.toList_some, Option.toList_none, List.cons_append, List.nil_append, zB_go, zB_end, zB_no, zokv_i, zokv_r, zokv_n, eq_self]
  rw [zXif, q130_39]
  · rfl
  · rfl
theorem c130 {k N mk : Nat} (hk : k < 8) (hN : h 92 0 = nI N) (hN8 : N ≤ 8) (hm1 : h 92 1 = nI mk) (hmk : mk < 80) (hP : zP (h 92) k) (t0 : zTI zok0 (h 92) 0) (t1 : zTI zok1 (h 92) 1) : ∃ h', zCf zT znl (d + 4) 130 [.ref 91, .int (nI k)] h = some (some (.int (zplain (h 92) k)), h') ∧ ∀ a, a ≠ 97 → a ≠ 98 → h' a = h a := by
  obtain ⟨kd, m, hm, v, ho, g, hu, l0, l1, l2, l3, l4, l5, l7, p0, p1, p2, p3, p4, p5, p7⟩ := hP
  have i0 := fun d => c112 d h hk (show 0 < 8 by decide)
  have i1 := fun d => c112 d h hk (show 1 < 8 by decide)
  have i2 := fun d => c112 d h hk (show 2 < 8 by decide)
  simp only [Nat.add_zero, p0] at i0
  have zk : zn (h 92) (90 + 8 * k) = kd := zn_of p0 (by omega)
  rw [c130_0 d h hk]
  unfold zplain
  rw [zk]
  obtain rfl | rfl | rfl | rfl | rfl | rfl | rfl : kd = 0 ∨ kd = 1 ∨ kd = 2 ∨ kd = 3 ∨ kd = 4 ∨ kd = 5 ∨ kd = 6 := by omega
  · refine ⟨h, ?_, fun _ _ _ => rfl⟩
    simp (decide := true) only [q130_41, q130_42, q130_43, q130_44, q130_47, q130_289, q130_290, i0, rc_M, if_false, Option.bind_some, Option.toList_some, Option.toList_none, List.cons_append, List.nil_append, zB_go, zB_end, zB_no, zokv_i, zokv_r, zokv_n, eq_self]
  · refine ⟨h, ?_, fun _ _ _ => rfl⟩
    simp (decide := true) only [q130_41, q130_42, q130_43, q130_44, q130_47, q130_84, q130_86, i0, rc_M, if_true, if_false, Option.bind_some, Option.toList_some, Option.toList_none, List.cons_append, List.nil_append, zB_go, zB_end, zB_no, zokv_i, zokv_r, zokv_n, eq_self]
  · refine ⟨h, ?_, fun _ _ _ => rfl⟩
    simp (decide := true) only [q130_41, q130_42, q130_43, q130_44, q130_47, q130_87, q130_88, q130_89, q130_92, q130_93, q130_96, q130_97, i0, rc_M, if_true, if_false, zpi, Option.bind_some, Option.toList_some, Option.toList_none, List.cons_append, List.nil_append, zB_go, zB_end, zB_no, zokv_i, zokv_r, zokv_n, eq_self]
    by_cases q : zfar (h 92) k ≤ nI 3
    · rw [if_neg (Int32.not_lt.mpr q), if_pos q]
    · rw [if_pos (Int32.not_le.mp q), if_neg q]
  · refine ⟨h, ?_, fun _ _ _ => rfl⟩
    have zN : zn (h 92) 0 = N := zn_of hN (by omega)
    simp (decide := true) only [q130_41, q130_42, q130_43, q130_44, q130_47, q130_98, q130_99, i0, rc_M, if_true, if_false, Option.bind_some, Option.toList_some, Option.toList_none, List.cons_append, List.nil_append, zB_go, zB_end, zB_no, zokv_i, zokv_r, zokv_n, eq_self]
    rw [show (0 : Nat) = 0 from rfl, w130 (d + 1) h hk hN hN8 N 0 _ _ (Nat.zero_add N), zN]
  · refine ⟨h, ?_, fun _ _ _ => rfl⟩
    simp (decide := true) only [q130_41, q130_42, q130_43, q130_44, q130_47, q130_196, q130_197, q130_200, q130_201, q130_202, q130_203, q130_204, q130_205, q130_206, q130_207, q130_210, q130_211, q130_212, q130_215, q130_217, q130_220, q130_221, i0, i1, gf_M0, ald_n92 (show 2 < 488 by decide), zn4, not_false_eq_true, rc_M, if_true, if_false, zpi, Option.bind_some, Option.toList_some, Option.toList_none, List.cons_append, List.nil_append, zB_go, zB_end, zB_no, zokv_i, zokv_r, zokv_n, eq_self]
  · obtain ⟨h', e1, e2⟩ := c124 d h hk t0
    refine ⟨h', ?_, e2⟩
    simp (decide := true) only [q130_41, q130_42, q130_43, q130_44, q130_47, q130_222, q130_223, q130_224, q130_227, i0, rc_M, e1, if_true, if_false, Option.bind_some, Option.toList_some, Option.toList_none, List.cons_append, List.nil_append, zB_go, zB_end, zB_no, zokv_i, zokv_r, zokv_n, eq_self]
  · obtain ⟨h', e1, e2⟩ := c129 d h (lo := zhl (zloud (h 92) k) (nI 0) (nI 99)) hk t1
    refine ⟨h', ?_, e2⟩
    have g1 := fun d => c127 d h hmk l2 false
    simp only [Bool.false_eq_true, if_false] at g1
    have g2 := fun d => c128 d h hk p5 p1 p2 l5 l1 l2 (ngo_lt (s := h 92) (o := false) hmk l2)
    have g3 := fun d => c128 d h hk p5 p1 p2 l5 l1 l2 hmk
    have eg : zgain (h 92) k = nI (nworth g m hm (ngo (h 92) mk hm false)) - nI (nworth g m hm mk) := by
      unfold zgain zwo
      rw [zn_of p5 (by omega), zn_of p1 (by omega), zn_of p2 (by omega), zn_of hm1 (by omega)]
    rw [eg]
    simp (decide := true) only [q130_41, q130_42, q130_43, q130_44, q130_47, q130_228, q130_229, q130_230, q130_231, q130_232, q130_235, q130_236, q130_237, q130_238, q130_239, q130_240, q130_243, q130_244, q130_247, q130_250, q130_251, q130_252, q130_253, q130_256, q130_257, q130_258, q130_261, q130_262, q130_264, q130_266, q130_267, q130_268, q130_270, q130_271, q130_273, q130_276, q130_279, q130_282, q130_284, q130_287, q130_288, i0, i2, p2, hm1, gf_M0, ald_n92 (show 1 < 488 by decide), g1, g2, g3, c108z, e1, rc_M, if_true, if_false, zpi, Option.bind_some, Option.toList_some, Option.toList_none, List.cons_append, List.nil_append, zB_go, zB_end, zB_no, zokv_i, zokv_r, zokv_n, eq_self]
    by_cases q : zcost (h 92) k (zhl (zloud (h 92) k) (nI 0) (nI 99)) ≤ nI (nworth g m hm (ngo (h 92) mk hm false)) - nI (nworth g m hm mk)
    · rw [if_pos q, if_neg (Int32.not_lt.mpr q)]
    · rw [if_neg q, if_pos (Int32.not_le.mp q)]
theorem c131 {k N mk : Nat} (hk : k < 8) (hN : h 92 0 = nI N) (hN8 : N ≤ 8) (hm1 : h 92 1 = nI mk) (hmk : mk < 80) (hP : zP (h 92) k) (t0 : zTI zok0 (h 92) 0) (t1 : zTI zok1 (h 92) 1) : ∃ h', zCf zT znl (d + 5) 131 [.ref 91, .int (nI k)] h = some (some (.int (zshout (h 92) k)), h') ∧ ∀ a, a ≠ 97 → a ≠ 98 → h' a = h a := by
  have i7 := fun d => c112 d h hk (show 7 < 8 by decide)
  unfold zshout
  by_cases q : h 92 (90 + 8 * k + 7) = nI 1
  · refine ⟨h, ?_, fun _ _ _ => rfl⟩
    rw [if_pos q]
    simp only [e131, q131_0, q131_1, q131_2, q131_4, q131_7, q131_8, q131_11, q131_12, q131_15, q131_16, q131_17, q131_20, q131_21, q131_23, q131_26, i7, q, rc_M, if_true, Option.bind_some, Option.toList_some, Option.toList_none, List.cons_append, List.nil_append, zB_go, zB_end, zB_no, zokv_i, zokv_r, zokv_n, eq_self]
  · rw [if_neg q]
    obtain ⟨h', e1, e2⟩ := c130 d h hk hN hN8 hm1 hmk hP t0 t1
    refine ⟨h', ?_, e2⟩
    simp only [e131, q131_0, q131_1, q131_2, q131_4, q131_7, q131_8, q131_11, q131_12, q131_15, q131_16, q131_17, q131_20, q131_21, q131_23, q131_26, i7, q, rc_M, e1, c108z, if_false, Option.bind_some, Option.toList_some, Option.toList_none, List.cons_append, List.nil_append, zB_go, zB_end, zB_no, zokv_i, zokv_r, zokv_n, eq_self]
end SH
