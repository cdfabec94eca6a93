/-! ===== the market's move, as a value; the class ===== -/
theorem zld_congr {g g' : Nat → Int32} : ∀ (n j : Nat) (b m : Int32), (∀ i, j ≤ i → i < j + n → g i = g' i) → zld g b m j n = zld g' b m j n
  | 0, _, _, _, _ => rfl
  | n + 1, j, b, m, e => by
    have e1 := e j (Nat.le_refl _) (by omega)
    have e2 := fun b m => zld_congr n (j + 1) b m fun i h1 h2 => e i (by omega) (by omega)
    unfold zld
    rw [e1, e2, e2, e2]
def zbest (s : Nat → Int32) : Int32 := zld (zshout s) (-1) (nI 0) 0 (zn s 0)
theorem zbest_v {s : Nat → Int32} {N : Nat} (hN : s 0 = nI N) (hN8 : N ≤ 8) : zbest s = -1 ∨ ∃ i, i < N ∧ zbest s = nI i := by
  unfold zbest
  rw [zn_of hN (by omega)]
  have := zld_val (zshout s) N 0 (-1) (nI 0) (Or.inl rfl)
  rw [Nat.zero_add] at this
  exact this
def zgf (s : Nat → Int32) (b : Int32) : Int32 := if b = -1 then s 1 else nI (ngo s (zn s 1) (zn s (90 + 8 * b.toNatClampNeg + 2)) false)
def zwalk (s : Nat → Int32) : Int32 := if s 6 = nI 1 then zpulled s else zgf s (zbest s)
def zmove (s : Nat → Int32) : Int32 := if zmayv s = nI 0 then s 1 else zwalk s
theorem zmayv_01 (s : Nat → Int32) : zmayv s = nI 0 ∨ zmayv s = nI 1 := by
  unfold zmayv
  split
  · exact Or.inr rfl
  · split
    · split
      · exact Or.inr rfl
      · exact Or.inl rfl
    · exact Or.inr rfl
section MV
variable (d : Nat)
theorem c66 {s : Nat → Int32} {w N mk : Nat} {h : zH} {b : Int32} (hw : zW w) (hR : zRW w s h) (hN : s 0 = nI N) (hN8 : N ≤ 8) (hm : s 1 = nI mk) (hmk : mk < 80) (hP : ∀ k, k < 8 → zP s k) (hb : b = -1 ∨ ∃ i, i < N ∧ b = nI i) : zCf zT znl (d + 3) 66 [.ref w, .int b] h = some (none, zup h w 9 (zgf s b)) := by
  have r12 : h w 12 = nI N := hR.2.2.2.1.2.2.2.1.trans hN
  have r9 : h w 9 = nI mk := hR.2.2.2.1.1.trans hm
  have hs : zup h w 9 (nI mk) = h := by rw [← r9]; exact zup_self ..
  unfold zgf
  rcases hb with rfl | ⟨i, hi, rfl⟩
  · have a : (-1 : Int32) < nI 0 := by decide
    rw [if_pos rfl, hm, hs]
    simp only [e66, q66_0, q66_1, q66_33, a, if_true, Option.bind_some, Option.toList_some, Option.toList_none, List.cons_append, List.nil_append, zB_go, zB_end, zB_no, zokv_i, zokv_r, zokv_n, eq_self]
  · have a : ¬ (nI i < nI 0) := nI_nlt (Nat.zero_le _) (by omega)
    have b : ¬ (nI N ≤ nI i) := nI_ge (by omega) (by omega)
    have c : ¬ (nI i = -1) := fun z => a (by rw [z]; decide)
    obtain ⟨kd, m, t, v, ho, g, hu, l0, l1, l2, l3, l4, l5, l7, p0, p1, p2, p3, p4, p5, p7⟩ := hP i (by omega)
    have q2 := (hR.2.2.1 i (by omega) 2 (by decide)).trans p2
    have g := c55 d h hw hR.1 hmk l2 false
    rw [if_neg (by decide)] at g
    rw [if_neg c, zn_of hm (by omega), nI_clamp (by omega), zn_of p2 (by omega)]
    simp only [e66, q66_0, q66_1, q66_4, q66_5, q66_6, q66_9, q66_12, q66_13, q66_14, q66_15, q66_18, q66_19, q66_22, q66_23, q66_24, q66_25, q66_26, q66_27, q66_30, q66_33, gf_W12 hw, gf_W9 hw, gf_W2 hw, pf_W9 hw, aal_W hw (show i < 8 by omega), ald_row hw (show i < 8 by omega) (show 2 < 8 by decide), r12, r9, q2, g, a, b, rc_W hw, if_true, if_false, Option.bind_some, Option.toList_some, Option.toList_none, List.cons_append, List.nil_append, zB_go, zB_end, zB_no, zokv_i, zokv_r, zokv_n, eq_self]
theorem c67 {s : Nat → Int32} {w N mk : Nat} {h : zH} (hw : zW w) (hR : zRW w s h) (hN : s 0 = nI N) (hN8 : N ≤ 8) (hm : s 1 = nI mk) (hmk : mk < 80) (hP : ∀ k, k < 8 → zP s k) (hg : ∀ i, i < N → h (w + 21) i = zshout s i) : zCf zT znl (d + 4) 67 [.ref w] h = some (none, zup h w 9 (zmove s)) := by
  have r12 : h w 12 = nI N := hR.2.2.2.1.2.2.2.1.trans hN
  have r9 : h w 9 = s 1 := hR.2.2.2.1.1
  have hs : zup h w 9 (s 1) = h := by rw [← r9]; exact zup_self ..
  have l0 := hR.2.1 0 (by decide)
  have eb : zld (h (w + 21)) (-1) (nI 0) 0 N = zbest s := by
    unfold zbest
    rw [zn_of hN (by omega)]
    exact zld_congr N 0 _ _ fun i _ hi => hg i (by omega)
  unfold zmove
  rcases zmayv_01 s with q | q
  · rw [if_pos q, hs]
    simp only [e67, q67_0, q67_1, q67_4, q67_7, c64 _ hw hR hm hmk, q, rc_W hw, zn1_0, if_true, if_false, Option.bind_some, Option.toList_some, Option.toList_none, List.cons_append, List.nil_append, zB_go, zB_end, zB_no, zokv_i, zokv_r, zokv_n, eq_self]
  · rw [if_neg (by rw [q]; decide)]
    unfold zwalk
    by_cases q6 : s 6 = nI 1
    · rw [if_pos q6]
      simp only [e67, q67_0, q67_1, q67_4, q67_7, q67_8, q67_9, q67_12, q67_13, q67_14, q67_15, q67_18, q67_19, q67_22, q67_25, q67_26, q67_27, q67_30, q67_33, c64 _ hw hR hm hmk, c65 _ hw hR hN hN8 hm hmk hP hg, q, q6, l0, gf_W1 hw, ald_W2 hw (show 0 < 3 by decide), rc_W hw, zn1_0, if_true, if_false, Option.bind_some, Option.toList_some, Option.toList_none, List.cons_append, List.nil_append, zB_go, zB_end, zB_no, zokv_i, zokv_r, zokv_n, eq_self]
    · rw [if_neg q6]
      simp only [e67, q67_0, q67_1, q67_4, q67_7, q67_8, q67_9, q67_12, q67_13, q67_14, q67_15, q67_18, q67_19, q67_22, q67_25, q67_26, q67_27, q67_30, q67_33, c64 _ hw hR hm hmk, c63 _ hw r12 hN8, eb, c66 _ hw hR hN hN8 hm hmk hP (zbest_v hN hN8), q, q6, l0, gf_W1 hw, ald_W2 hw (show 0 < 3 by decide), rc_W hw, zn1_0, if_true, if_false, Option.bind_some, Option.toList_some, Option.toList_none, List.cons_append, List.nil_append, zB_go, zB_end, zB_no, zokv_i, zokv_r, zokv_n, eq_self]
end MV
