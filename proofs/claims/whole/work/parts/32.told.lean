/-! ===== the state that both sides have: the reference's row s ===== -/
/-- the text of use u -/
def ztx (s : Nat → Int32) (u : Nat) : List (Int32 × Int32) := (List.range (s (154 + 125 * u)).toNatClampNeg).map fun i => (s (154 + 125 * u + 1 + 2 * i), s (154 + 125 * u + 2 + 2 * i))
def zok0 (v : Int32) : Prop := v = nI 102 ∨ v = nI 118 ∨ v = nI 104 ∨ v = nI 103 ∨ v = nI 119
def zok1 (v : Int32) : Prop := v = nI 115 ∨ v = nI 104 ∨ v = nI 103
def zoku (u : Nat) (v : Int32) : Prop := if u = 0 then zok0 v else zok1 v
def zix0 (v : Int32) : Nat := if v = nI 102 then 0 else if v = nI 118 then 1 else if v = nI 104 then 2 else if v = nI 103 then 3 else 4
def zix1 (v : Int32) : Nat := if v = nI 115 then 0 else if v = nI 104 then 1 else 2
theorem zix0_lt (v : Int32) : zix0 v < 5 := by unfold zix0; repeat' split <;> try decide
theorem zix1_lt (v : Int32) : zix1 v < 5 := by unfold zix1; repeat' split <;> try decide
theorem zok0_c : ∀ v, zok0 v → ∃ c, c < 128 ∧ v = nI c := by
  rintro v (rfl | rfl | rfl | rfl | rfl)
  · exact ⟨102, by decide, rfl⟩
  · exact ⟨118, by decide, rfl⟩
  · exact ⟨104, by decide, rfl⟩
  · exact ⟨103, by decide, rfl⟩
  · exact ⟨119, by decide, rfl⟩
theorem zok1_c : ∀ v, zok1 v → ∃ c, c < 128 ∧ v = nI c := by
  rintro v (rfl | rfl | rfl)
  · exact ⟨115, by decide, rfl⟩
  · exact ⟨104, by decide, rfl⟩
  · exact ⟨103, by decide, rfl⟩
/-- a text is none, or can be worked out -/
def zTI (ok : Int32 → Prop) (s : Nat → Int32) (u : Nat) : Prop := ∃ n, n ≤ 60 ∧ s (154 + 125 * u) = nI n ∧ (n = 0 ∨ zwf ok (ztx s u) 0)
theorem ztx_len {s : Nat → Int32} {u n : Nat} (h : s (154 + 125 * u) = nI n) (hn : n ≤ 60) : (ztx s u).length = n := by
  unfold ztx
  rw [List.length_map, List.length_range, h, nI_clamp (by omega)]
theorem ztx_rt {s : Nat → Int32} {u n : Nat} (h : s (154 + 125 * u) = nI n) (hn : n ≤ 60) : zrt2 s (154 + 125 * u) (ztx s u) := by
  have hl := ztx_len h hn
  refine ⟨by rw [hl]; exact h, by omega, fun j q hj => ?_⟩
  unfold ztx at hj
  rw [List.getElem?_map] at hj
  cases hr : (List.range (s (154 + 125 * u)).toNatClampNeg)[j]? with
  | none => rw [hr] at hj; cases hj
  | some i =>
    rw [hr] at hj
    have hi : i = j := by
      obtain ⟨a, b⟩ := List.getElem?_eq_some_iff.mp hr
      simpa using b.symm
    subst hi
    obtain rfl := Option.some.inj hj
    exact ⟨rfl, rfl⟩
theorem zst1_congr {ok : Int32 → Prop} {nm nm' : Int32 → Int32} (e : ∀ v, ok v → nm v = nm' v) {q : Int32 × Int32} {st : List Int32} (h : q.1 = nI 1 → ok q.2) : zst1 nm q st = zst1 nm' q st := by
  unfold zst1
  by_cases z0 : q.1 = nI 0
  · rw [if_pos z0, if_pos z0]
  · rw [if_neg z0, if_neg z0]
    by_cases z1 : q.1 = nI 1
    · rw [if_pos z1, if_pos z1, e _ (h z1)]
    · rw [if_neg z1, if_neg z1]
theorem zrun_congr {ok : Int32 → Prop} {nm nm' : Int32 → Int32} (e : ∀ v, ok v → nm v = nm' v) : ∀ (T : List (Int32 × Int32)) (k : Nat) (st : List Int32), zwf ok T k → zrun nm T st = zrun nm' T st
  | [], _, _, _ => rfl
  | q :: r, k, st, h => by
    have hq : q.1 = nI 1 → ok q.2 := by
      intro z
      rcases h with ⟨y, -⟩ | ⟨-, y, -⟩ | ⟨y, -⟩ | ⟨y, -⟩
      · rw [z] at y; exact absurd y (by decide)
      · exact y
      · rw [z] at y; exact absurd y (by decide)
      · rw [z] at y; exact absurd y (by decide)
    show zrun nm r (zst1 nm q st) = zrun nm' r (zst1 nm' q st)
    rw [zst1_congr e hq]
    rcases h with ⟨-, y⟩ | ⟨-, -, y⟩ | ⟨-, -, y⟩ | ⟨-, -, -, y⟩
    · exact zrun_congr e r _ _ y
    · exact zrun_congr e r _ _ y
    · exact zrun_congr e r _ _ y
    · exact zrun_congr e r _ _ y
def znm0 (s : Nat → Int32) (k : Nat) (v : Int32) : Int32 := if v = nI 102 then zdis (s 1) (s (90 + 8 * k + 2)) else if v = nI 118 then s (90 + 8 * k + 3) else if v = nI 104 then s (90 + 8 * k + 4) else if v = nI 103 then s (90 + 8 * k + 5) else s 2
def znm1 (s : Nat → Int32) (k : Nat) (lo : Int32) (v : Int32) : Int32 := if v = nI 115 then lo else if v = nI 104 then s (90 + 8 * k + 4) else s (90 + 8 * k + 5)
/-- what a place that is told shouts, before it is held -/
def zcalled (s : Nat → Int32) (k : Nat) : Int32 := if ztx s 0 = [] then s (90 + 8 * k + 3) - s (90 + 8 * k + 4) else (zrun (znm0 s k) (ztx s 0) []).headD (nI 0)
def zhl (v lo hi : Int32) : Int32 := if lo ≤ v then if v ≤ hi then v else hi else lo
def zcost (s : Nat → Int32) (k : Nat) (lo : Int32) : Int32 := zhl (if ztx s 1 = [] then lo / nI 3 else (zrun (znm1 s k lo) (ztx s 1) []).headD (nI 0)) (nI 0) (nI 999)
theorem ztx_nil {s : Nat → Int32} {u n : Nat} (h : s (154 + 125 * u) = nI n) (hn : n ≤ 60) : ztx s u = [] ↔ n = 0 := by
  rw [← List.length_eq_zero_iff, ztx_len h hn]
theorem zr97 (h : zH) (j : Nat) (x : Int32) : zup h 97 j x 92 = h 92 := zup_row_ne (by decide)
theorem zr97_at (h : zH) (j : Nat) (x : Int32) : zup h 97 j x 97 j = x := zup_at
section CD
variable (d : Nat) (h : zH)
theorem c121 {u n : Nat} (hu : u < 2) (hn : n ≤ 60) (ht : h 92 (154 + 125 * u) = nI n) : zCf zT znl (d + 1) 121 [.ref 91, .int (nI u)] h = some (some (.int (if n = 0 then nI 0 else nI 1)), h) := by
  have e : (nI n ≤ nI 0) = (n = 0) := propext ((nI_leI (by omega) (by decide)).trans Nat.le_zero)
  simp only [e121, q121_0, q121_1, q121_4, q121_7, q121_9, q121_10, q121_11, q121_12, q121_13, q121_16, q121_17, q121_20, q121_21, gf_M0, pk_mul, nI_add, ald_n92 (show 154 + 125 * u < 488 by omega), ht, e, z01_0, z01_1, zpi, Option.bind_some, Option.toList_some, Option.toList_none, List.cons_append, List.nil_append, zB_go, zB_end, zB_no, zokv_i, zokv_r, zokv_n, eq_self]
theorem c124 {k : Nat} (hk : k < 8) (ht : zTI zok0 (h 92) 0) : ∃ h', zCf zT znl (d + 3) 124 [.ref 91, .int (nI k)] h = some (some (.int (zcalled (h 92) k)), h') ∧ ∀ a, a ≠ 97 → a ≠ 98 → h' a = h a := by
  obtain ⟨n, hn, hs, hw⟩ := ht
  have t1 := fun d => c121 d h (u := 0) (by decide) hn hs
  by_cases z : n = 0
  · subst z
    refine ⟨h, ?_, fun _ _ _ => rfl⟩
    unfold zcalled
    rw [if_pos ((ztx_nil hs hn).mpr rfl)]
    simp only [e124, q124_0, q124_1, q124_2, q124_5, q124_8, q124_9, q124_10, q124_11, q124_14, q124_15, q124_16, q124_17, q124_20, q124_21, q124_22, q124_23, q124_26, q124_28, q124_29, q124_32, q124_33, q124_34, q124_35, q124_36, q124_37, q124_40, q124_43, q124_44, q124_45, q124_48, q124_50, q124_51, q124_52, q124_53, q124_56, q124_57, q124_58, q124_61, q124_63, q124_64, q124_65, q124_66, q124_69, q124_70, q124_71, q124_74, q124_76, q124_77, q124_78, q124_79, q124_82, q124_83, q124_84, q124_87, q124_89, q124_90, q124_93, q124_94, q124_95, q124_96, q124_97, q124_98, q124_101, t1, rc_M, zb0', c112 _ _ hk (show 3 < 8 by decide), c112 _ _ hk (show 4 < 8 by decide), if_true, Option.bind_some, Option.toList_some, Option.toList_none, List.cons_append, List.nil_append, zB_go, zB_end, zB_no, zokv_i, zokv_r, zokv_n, eq_self]
  · have hw := hw.resolve_left z
    have hq : (zup (zup (zup (zup (zup h 97 102 (zdis (h 92 1) (h 92 (90 + 8 * k + 2)))) 97 118 (h 92 (90 + 8 * k + 3))) 97 104 (h 92 (90 + 8 * k + 4))) 97 103 (h 92 (90 + 8 * k + 5))) 97 119 (h 92 2)) 92 = h 92 := by simp only [zr97]
    obtain ⟨h', e1, e2⟩ := c123 d zok0_c (u := 0) (by decide) (zup (zup (zup (zup (zup h 97 102 (zdis (h 92 1) (h 92 (90 + 8 * k + 2)))) 97 118 (h 92 (90 + 8 * k + 3))) 97 104 (h 92 (90 + 8 * k + 4))) 97 103 (h 92 (90 + 8 * k + 5))) 97 119 (h 92 2)) (T := ztx (h 92) 0) (by rw [hq]; exact ztx_rt hs hn) hw
    refine ⟨h', ?_, fun a a1 a2 => by rw [e2 a a2, zup_row_ne a1, zup_row_ne a1, zup_row_ne a1, zup_row_ne a1, zup_row_ne a1]⟩
    simp only [e124, q124_0, q124_1, q124_2, q124_5, q124_8, q124_9, q124_10, q124_11, q124_14, q124_15, q124_16, q124_17, q124_20, q124_21, q124_22, q124_23, q124_26, q124_28, q124_29, q124_32, q124_33, q124_34, q124_35, q124_36, q124_37, q124_40, q124_43, q124_44, q124_45, q124_48, q124_50, q124_51, q124_52, q124_53, q124_56, q124_57, q124_58, q124_61, q124_63, q124_64, q124_65, q124_66, q124_69, q124_70, q124_71, q124_74, q124_76, q124_77, q124_78, q124_79, q124_82, q124_83, q124_84, q124_87, q124_89, q124_90, q124_93, q124_94, q124_95, q124_96, q124_97, q124_98, q124_101, t1, rc_M, zn1_0, z, gf_M0, gf_M10, ald_n92 (show 1 < 488 by decide), ald_n92 (show 2 < 488 by decide), c112 _ _ hk (show 2 < 8 by decide), c112 _ _ hk (show 3 < 8 by decide), c112 _ _ hk (show 4 < 8 by decide), c112 _ _ hk (show 5 < 8 by decide), c114, ast_n97 (show 102 < 128 by decide), ast_n97 (show 118 < 128 by decide), ast_n97 (show 104 < 128 by decide), ast_n97 (show 103 < 128 by decide), ast_n97 (show 119 < 128 by decide), zr97, e1, if_true, if_false, Option.bind_some, Option.toList_some, Option.toList_none, List.cons_append, List.nil_append, zB_go, zB_end, zB_no, zokv_i, zokv_r, zokv_n, eq_self]
    unfold zcalled
    rw [if_neg (fun y => z ((ztx_nil hs hn).mp y)), zrun_congr (nm' := znm0 (h 92) k) (ok := zok0) ?_ _ _ _ hw]
    rintro v (rfl | rfl | rfl | rfl | rfl) <;> simp (decide := true) [zup, znm0, nI_clamp]
end CD
