/-! ===== a week's end ===== -/
def zit (f : (Nat → Int32) → Nat → Nat → Int32) : (Nat → Int32) → Nat → Nat → Nat → Int32
  | s, _, 0 => s
  | s, j, n + 1 => zit f (f s j) (j + 1) n
def zgold (s : Nat → Int32) (j : Nat) (x : Int32) : Int32 := zhl (s (90 + 8 * j + 6) + x) (-999999) (nI 999999)
def zen1 (s : Nat → Int32) (j : Nat) : Nat → Int32 := zud (zud s (90 + 8 * j + 6) (zgold s j (nI (zwo s j (zn s 1))))) (90 + 8 * j + 4) (zhl (s (90 + 8 * j + 4) - s 7) (nI 0) (nI 99))
def zends (s : Nat → Int32) : Nat → Int32 := zud (zit zen1 s 0 (zn s 0)) 2 (zit zen1 s 0 (zn s 0) 2 + nI 1)
theorem zen1_lo {s : Nat → Int32} {j i : Nat} (hi : i < 90) : zen1 s j i = s i := by
  unfold zen1
  rw [zud_ne (by omega), zud_ne (by omega)]
theorem zJ_en1 {s : Nat → Int32} {N mk j : Nat} (hj : j < 8) (z : zJ s N mk) : zJ (zen1 s j) N mk := by
  unfold zen1
  obtain ⟨x, hx, ex⟩ := zhl_99 (s (90 + 8 * j + 4) - s 7)
  rw [ex]
  exact zJ_ud4 hj hx (zJ_ud6 hj z)
theorem zJ_it {f : (Nat → Int32) → Nat → Nat → Int32} {N mk : Nat} (hf : ∀ s j, j < 8 → zJ s N mk → zJ (f s j) N mk) : ∀ (n j : Nat) (s : Nat → Int32), j + n ≤ 8 → zJ s N mk → zJ (zit f s j n) N mk
  | 0, _, _, _, z => z
  | n + 1, j, s, h, z => zJ_it hf n (j + 1) (f s j) (by omega) (hf s j (by omega) z)
theorem zJ_ends {s : Nat → Int32} {N mk : Nat} (z : zJ s N mk) : zJ (zends s) N mk := by
  unfold zends
  rw [zn_of z.1 (by have := z.2.1; omega)]
  exact zJ_udx (by decide) (by decide) (zJ_it (fun s j hj => zJ_en1 hj) N 0 s (by have := z.2.1; omega) z)
theorem zmax_0 : ∀ p, p < 100 → ∀ q, q < 100 → zmax (nI 0) (nI p - nI q) = zhl (nI p - nI q) (nI 0) (nI 99) := by decide +kernel
theorem zlo_hi : (-999999 : Int32) ≤ nI 999999 := by decide
section EN
variable (d : Nat)
theorem c155 {h : zH} {k : Nat} {x : Int32} (hk : k < 8) : zCf zT znl (d + 2) 155 [.ref 91, .int (nI k), .int x] h = some (none, zup h 92 (90 + 8 * k + 6) (zgold (h 92) k x)) := by
  unfold zgold
  simp only [e155, q155_0, q155_2, q155_4, q155_5, q155_6, q155_7, q155_9, q155_10, q155_11, q155_12, q155_15, q155_16, q155_17, q155_20, q155_21, q155_22, q155_23, q155_24, q155_26, q155_28, q155_31, q155_32, gf_M0, pk_mul, nI_add, ald_n92 (show 90 + 8 * k + 6 < 488 by omega), ast_n92 (show 90 + 8 * k + 6 < 488 by omega), c108z, Option.bind_some, Option.toList_some, Option.toList_none, List.cons_append, List.nil_append, zB_go, zB_end, zB_no, zokv_i, zokv_r, zokv_n, eq_self]
theorem w156 {N mk q : Nat} (hq : q < 100) : ∀ (n j : Nat) (h : zH), j + n = N → zJ (h 92) N mk → h 92 7 = nI q → zXf zT znl (d + 4) 156 2 [.ref 91, .int (nI j)] [] h = zXf zT znl (d + 4) 156 68 [.ref 91, .int (nI N)] [] (fun a => if a = 92 then zit zen1 (h 92) j n else h a) := by
  intro n
  induction n with
  | zero =>
    intro j h hj z _
    have a : nI N ≤ nI j := by rw [show N = j by omega]; exact Int32.le_refl _
    have e : (fun a => if a = 92 then zit zen1 (h 92) j 0 else h a) = h := by
      funext a
      by_cases y : a = 92
      · subst y; rfl
      · exact if_neg y
    rw [q156_2, e]
    simp only [q156_3, q156_4, q156_7, q156_8, q156_9, gf_M0, ald_n92 (show 0 < 488 by decide), z.1, a, if_true, Option.bind_some, Option.toList_some, Option.toList_none, List.cons_append, List.nil_append, zB_go, zB_end, zB_no, zokv_i, zokv_r, zokv_n, eq_self]
    rw [show j = N by omega]
  | succ n ih =>
    intro j h hj z h7
    have hN8 : N ≤ 8 := z.2.1
    have a : ¬ (nI N ≤ nI j) := nI_ge (by omega) (by omega)
    have hj8 : j < 8 := by omega
    obtain ⟨kd, m, t, v, ho, g, hu, l0, l1, l2, l3, l4, l5, l7, p0, p1, p2, p3, p4, p5, p7⟩ := z.2.2.2.2.1 j hj8
    have ew : nworth g m t mk = zwo (h 92) j (zn (h 92) 1) := by
      unfold zwo
      rw [zn_of z.2.2.1 (by have := z.2.2.2.1; omega), zn_of p5 (by omega), zn_of p1 (by omega), zn_of p2 (by omega)]
    have r1 : ∀ x, zup h 92 (90 + 8 * j + 6) x 92 = zud (h 92) (90 + 8 * j + 6) x := fun x => zup_ud ..
    have r2 : ∀ x, zud (h 92) (90 + 8 * j + 6) x (90 + 8 * j + 4) = h 92 (90 + 8 * j + 4) := fun x => zud_ne (by omega)
    have r3 : ∀ x, zud (h 92) (90 + 8 * j + 6) x 0 = nI N := fun x => (zud_ne (by omega)).trans z.1
    have r4 : ∀ x, zud (h 92) (90 + 8 * j + 6) x 7 = h 92 7 := fun x => zud_ne (by omega)
    have e92 : zup (zup h 92 (90 + 8 * j + 6) (zgold (h 92) j (nI (zwo (h 92) j (zn (h 92) 1))))) 92 (90 + 8 * j + 4) (zhl (h 92 (90 + 8 * j + 4) - h 92 7) (nI 0) (nI 99)) 92 = zen1 (h 92) j := by rw [zup_ud, r1]; rfl
    have f := ih (j + 1) (zup (zup h 92 (90 + 8 * j + 6) (zgold (h 92) j (nI (zwo (h 92) j (zn (h 92) 1))))) 92 (90 + 8 * j + 4) (zhl (h 92 (90 + 8 * j + 4) - h 92 7) (nI 0) (nI 99))) (by omega) (by rw [e92]; exact zJ_en1 hj8 z) (by rw [e92, zen1_lo (by decide)]; exact h7)
    have e : (fun a => if a = 92 then zit zen1 (h 92) j (n + 1) else h a) = (fun a => if a = 92 then zit zen1 (zup (zup h 92 (90 + 8 * j + 6) (zgold (h 92) j (nI (zwo (h 92) j (zn (h 92) 1))))) 92 (90 + 8 * j + 4) (zhl (h 92 (90 + 8 * j + 4) - h 92 7) (nI 0) (nI 99)) 92) (j + 1) n else zup (zup h 92 (90 + 8 * j + 6) (zgold (h 92) j (nI (zwo (h 92) j (zn (h 92) 1))))) 92 (90 + 8 * j + 4) (zhl (h 92 (90 + 8 * j + 4) - h 92 7) (nI 0) (nI 99)) a) := by
      funext a
      by_cases y : a = 92
      · rw [if_pos y, if_pos y, e92]; rfl
      · rw [if_neg y, if_neg y, zup_row_ne y, zup_row_ne y]
    rw [e, ← f, q156_2]
    simp only [q156_0, q156_1, q156_3, q156_4, q156_7, q156_8, q156_9, q156_12, q156_13, q156_14, q156_15, q156_16, q156_17, q156_20, q156_21, q156_22, q156_25, q156_28, q156_29, q156_32, q156_34, q156_36, q156_37, q156_38, q156_39, q156_40, q156_41, q156_42, q156_43, q156_44, q156_47, q156_48, q156_51, q156_53, q156_54, q156_55, q156_56, q156_58, q156_61, q156_62, q156_65, gf_M0, ald_n92 (show 0 < 488 by decide), ald_n92 (show 1 < 488 by decide), ald_n92 (show 7 < 488 by decide), z.1, z.2.2.1, a, c128 _ _ hj8 p5 p1 p2 l5 l1 l2 z.2.2.2.1, ew, c155 _ hj8, c112 _ _ hj8 (show 4 < 8 by decide), c108z, r1, r2, r3, r4, pk_mul, nI_add, ast_n92 (show 90 + 8 * j + 4 < 488 by omega), rc_M, if_true, if_false, Option.bind_some, Option.toList_some, Option.toList_none, List.cons_append, List.nil_append, zB_go, zB_end, zB_no, zokv_i, zokv_r, zokv_n, eq_self]
theorem c156 {N mk q : Nat} {h : zH} (hq : q < 100) (z : zJ (h 92) N mk) (h7 : h 92 7 = nI q) : zCf zT znl (d + 5) 156 [.ref 91] h = some (none, fun a => if a = 92 then zends (h 92) else h a) := by
  have f := w156 d hq N 0 h (Nat.zero_add N) z h7
  have zN : zn (h 92) 0 = N := zn_of z.1 (by have := z.2.1; omega)
  simp only [e156, q156_0, q156_1, Option.bind_some, Option.toList_some, Option.toList_none, List.cons_append, List.nil_append, zB_go, zB_end, zB_no, zokv_i, zokv_r, zokv_n, eq_self]
  rw [f]
  have e : (fun a => if a = 92 then zends (h 92) else h a) = zup (fun a => if a = 92 then zit zen1 (h 92) 0 N else h a) 92 2 (zit zen1 (h 92) 0 N 2 + nI 1) := by
    funext a
    by_cases y : a = 92
    · subst y
      rw [zup_ud, if_pos rfl, if_pos rfl]
      unfold zends
      rw [zN]
    · rw [zup_row_ne y, if_neg y, if_neg y]
  rw [e]
  simp only [q156_68, q156_69, q156_72, q156_73, q156_74, q156_75, q156_76, q156_77, q156_78, gf_M0, ald_n92 (show 2 < 488 by decide), ast_n92 (show 2 < 488 by decide), if_true, Option.bind_some, Option.toList_some, Option.toList_none, List.cons_append, List.nil_append, zB_go, zB_end, zB_no, zokv_i, zokv_r, zokv_n, eq_self]
end EN
