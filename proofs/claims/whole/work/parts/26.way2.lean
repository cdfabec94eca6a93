/-! ===== ways between cells: the methods ===== -/
theorem zb0 {c : Prop} [Decidable c] : ((if c then nI 1 else nI 0) = nI 0) = ¬ c := by
  by_cases q : c
  · rw [if_pos q]
    exact propext ⟨fun e => absurd e (by decide), fun n => absurd q n⟩
  · rw [if_neg q]
    exact propext ⟨fun _ => q, fun _ => rfl⟩
theorem zb0' {c : Prop} [Decidable c] : ((if c then nI 0 else nI 1) = nI 0) = c := by
  by_cases q : c
  · rw [if_pos q]
    exact propext ⟨fun _ => q, fun _ => rfl⟩
  · rw [if_neg q]
    exact propext ⟨fun e => absurd e (by decide), fun n => absurd n q⟩
theorem zn1_0 : (nI 1 = nI 0) = False := eq_false (by decide)
theorem zn10_1 : (nI 10 = nI 1) = False := eq_false (by decide)
theorem z01_if {c : Prop} [Decidable c] : ((if c then nI 1 else nI 0) = 0 ∨ (if c then nI 1 else nI 0) = 1) = True := eq_true (by split; exact Or.inr rfl; exact Or.inl rfl)
section WAY2
variable (d : Nat) (h : zH) (x y z : Int32)
theorem c126_0 {c : Nat} (hc : x + y = nI c) (hc2 : c < 478) : zCf zT znl (d + 2) 126 [.ref 91, .int x, .int y, .int (nI 0)] h = some (some (.int (if y = nI 0 then nI 0 else if h 92 (10 + c) = nI 1 then nI 0 else nI 1)), h) := by
  simp only [e126, q126_0, q126_1, q126_4, q126_5, q126_8, q126_9, q126_10, q126_11, q126_12, q126_15, q126_18, q126_19, q126_22, q126_23, hc, c115 _ _ hc2, rc_M, zb0, zn1_0, z01_0, z01_1, zpi, if_true, if_false, ite_not, Option.bind_some, Option.toList_some, Option.toList_none, List.cons_append, List.nil_append, zB_go, zB_end, zB_no, zokv_i, zokv_r, zokv_n, eq_self]
theorem c126_1 : zCf zT znl (d + 2) 126 [.ref 91, .int x, .int y, .int (nI 1)] h = some (some (.int (if y = nI 0 then nI 0 else nI 1)), h) := by
  simp only [e126, q126_0, q126_1, q126_4, q126_5, q126_8, q126_9, q126_10, q126_11, q126_12, q126_15, q126_18, q126_19, q126_22, q126_23, zb0, zn1_0, z01_0, z01_1, zpi, if_true, if_false, ite_not, Option.bind_some, Option.toList_some, Option.toList_none, List.cons_append, List.nil_append, zB_go, zB_end, zB_no, zokv_i, zokv_r, zokv_n, eq_self]
theorem c127 {f t : Nat} (hf : f < 80) (ht : t < 80) (o : Bool) : zCf zT znl (d + 3) 127 [.ref 91, .int (nI f), .int (nI t), .int (if o = true then nI 1 else nI 0)] h = some (some (.int (nI (ngo (h 92) f t o))), h) := by
  have r1 := sy_r f hf t ht
  have r2 := sy_c f hf t ht
  have w := wy_f f hf t ht
  have w2 : (zabs (nI t % nI 10 - nI f % nI 10) < zabs (nI t / nI 10 - nI f / nI 10)) = ¬ (nrf f t = true) := propext (by rw [← w, Int32.not_le])
  have l1 : nr1 f t < 478 := by have := nw_lt f hf t ht; unfold nw1 nw2 at this; split at this <;> omega
  have l2 : nc1 f t < 478 := by have := nw_lt f hf t ht; unfold nw1 nw2 at this; split at this <;> omega
  have m1 := fun d => c126_0 d h _ _ r1.1 l1
  have m2 := fun d => c126_0 d h _ _ r2.1 l2
  cases o
  · simp only [e127, q127_0, q127_1, q127_3, q127_4, q127_5, q127_7, q127_8, q127_9, q127_12, q127_13, q127_15, q127_16, q127_17, q127_19, q127_20, q127_21, q127_24, q127_27, q127_28, q127_31, q127_32, q127_34, q127_35, q127_36, q127_38, q127_41, q127_42, q127_45, q127_47, q127_50, q127_52, q127_53, q127_54, q127_56, q127_59, q127_61, q127_64, q127_65, q127_68, q127_70, q127_71, q127_72, q127_74, q127_75, q127_78, q127_81, q127_82, q127_84, q127_85, q127_88, q127_89, q127_90, q127_92, q127_93, q127_96, q127_99, q127_100, q127_102, q127_103, q127_106, q127_107, zn10, zn10_1, zn1_0, not_false_eq_true, c113, c125, m1, m2, rc_M, w2, r1.1, r1.2, r2.1, r2.2, z01_0, z01_1, zpi, if_true, if_false, Bool.false_eq_true, Option.bind_some, Option.toList_some, Option.toList_none, List.cons_append, List.nil_append, zB_go, zB_end, zB_no, zokv_i, zokv_r, zokv_n, eq_self]
    unfold ngo nw1 nw2
    by_cases hb : nrf f t = true <;> by_cases e1 : nr1 f t = f <;> by_cases e2 : nc1 f t = f <;> by_cases g1 : h 92 (10 + nr1 f t) = nI 1 <;> by_cases g2 : h 92 (10 + nc1 f t) = nI 1 <;> simp [hb, e1, e2, g1, g2, zn1_0]
  · simp only [e127, q127_0, q127_1, q127_3, q127_4, q127_5, q127_7, q127_8, q127_9, q127_12, q127_13, q127_15, q127_16, q127_17, q127_19, q127_20, q127_21, q127_24, q127_27, q127_28, q127_31, q127_32, q127_34, q127_35, q127_36, q127_38, q127_41, q127_42, q127_45, q127_47, q127_50, q127_52, q127_53, q127_54, q127_56, q127_59, q127_61, q127_64, q127_65, q127_68, q127_70, q127_71, q127_72, q127_74, q127_75, q127_78, q127_81, q127_82, q127_84, q127_85, q127_88, q127_89, q127_90, q127_92, q127_93, q127_96, q127_99, q127_100, q127_102, q127_103, q127_106, q127_107, zn10, zn10_1, zn1_0, not_false_eq_true, c113, c125, c126_1, rc_M, w2, r1.1, r1.2, r2.1, r2.2, z01_0, z01_1, zpi, if_true, if_false, Option.bind_some, Option.toList_some, Option.toList_none, List.cons_append, List.nil_append, zB_go, zB_end, zB_no, zokv_i, zokv_r, zokv_n, eq_self]
    unfold ngo nw1 nw2
    by_cases hb : nrf f t = true <;> by_cases e1 : nr1 f t = f <;> by_cases e2 : nc1 f t = f <;> by_cases g1 : h 92 (10 + nr1 f t) = nI 1 <;> by_cases g2 : h 92 (10 + nc1 f t) = nI 1 <;> simp [hb, e1, e2, g1, g2, zn1_0]
end WAY2
