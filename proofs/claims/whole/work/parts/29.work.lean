/-! ===== texts worked out: the reference ===== -/
theorem nI_sub1 (m : Nat) : nI (m + 1) - nI 1 = nI m := by
  rw [show nI 1 = (1 : Int32) from rfl, nI_pred]
theorem nI_m1 (m : Nat) : nI (m + 1) + (-1) = nI m := pk_m1 m
theorem zif_int {c : Prop} [Decidable c] {a b : Int32} : (if c then Value.int a else Value.int b) = Value.int (if c then a else b) := by split <;> rfl
/-- the stack, top first, lies in the row from the bottom on -/
def zpl (f : Nat → Int32) : List Int32 → Prop
  | [] => True
  | x :: t => f t.length = x ∧ zpl f t
theorem zpl_up {f g : Nat → Int32} : ∀ {st : List Int32}, zpl f st → (∀ j, j < st.length → g j = f j) → zpl g st
  | [], _, _ => trivial
  | x :: t, h, e => ⟨(e _ (by simp)).trans h.1, zpl_up h.2 fun j hj => e j (by simp only [List.length_cons]; omega)⟩
theorem zup_at {h : zH} {a j : Nat} {x : Int32} : zup h a j x a j = x := by simp [zup]
theorem zup_o {h : zH} {a j i : Nat} {x : Int32} (e : i ≠ j) : zup h a j x a i = h a i := by simp [zup, e]
theorem zup_ne {h : zH} {a b j i : Nat} {x : Int32} (e : b ≠ a) : zup h a j x b i = h b i := by simp [zup, e]
/-- one step of a text, on the stack -/
def zst1 (nm : Int32 → Int32) (q : Int32 × Int32) (st : List Int32) : List Int32 :=
  if q.1 = nI 0 then q.2 :: st else if q.1 = nI 1 then nm q.2 :: st else if q.1 = nI 2 then (match st with
    | x :: t => (if x = nI 0 then nI 1 else nI 0) :: t
    | [] => []) else (match st with
    | y :: x :: t => zjoin q.2 x y :: t
    | t => t)
def zrun (nm : Int32 → Int32) : List (Int32 × Int32) → List Int32 → List Int32
  | [], st => st
  | q :: r, st => zrun nm r (zst1 nm q st)
/-- a text that can be worked out: ok tells which names may stand in it; k: how many numbers lie on the stack -/
def zwf (ok : Int32 → Prop) : List (Int32 × Int32) → Nat → Prop
  | [], k => k = 1
  | q :: r, k => (q.1 = nI 0 ∧ zwf ok r (k + 1)) ∨ (q.1 = nI 1 ∧ ok q.2 ∧ zwf ok r (k + 1)) ∨ (q.1 = nI 2 ∧ 1 ≤ k ∧ zwf ok r k) ∨ (q.1 = nI 3 ∧ zsig q.2 ∧ 2 ≤ k ∧ zwf ok r (k - 1))
theorem zn0_1 : ¬ (nI 0 = nI 1) := by decide
theorem zn2_0 : ¬ (nI 2 = nI 0) := by decide
theorem zn2_1 : ¬ (nI 2 = nI 1) := by decide
theorem zn3_0 : ¬ (nI 3 = nI 0) := by decide
theorem zn3_1 : ¬ (nI 3 = nI 1) := by decide
theorem zn3_2 : ¬ (nI 3 = nI 2) := by decide
theorem zn1_0' : ¬ (nI 1 = nI 0) := by decide
section WK
variable (d : Nat) (h : zH)
theorem w123_0 {f n i len : Nat} {u V : Int32} {w5 w6 : Value} (hl : h 92 f = nI len) (hi : i < len) (hf : f + 2 * len < 488) (hW : h 92 (f + 1 + 2 * i) = nI 0) (hV : h 92 (f + 2 + 2 * i) = V) (hn : n < 64) : zXf zT znl (d + 1) 123 14 [.ref 91, .int u, .int (nI f), .int (nI n), .int (nI i), w5, w6] [] h = zXf zT znl (d + 1) 123 14 [.ref 91, .int u, .int (nI f), .int (nI (n + 1)), .int (nI (i + 1)), .int (nI 0), .int V] [] (zup h 98 n V) := by
  have a : ¬ (nI len ≤ nI i) := nI_ge hi (by omega)
  rw [q123_14]
  simp only [q123_0, q123_3, q123_5, q123_6, q123_7, q123_8, q123_9, q123_10, q123_11, q123_12, q123_16, q123_17, q123_20, q123_21, q123_22, q123_25, q123_26, q123_29, q123_30, q123_31, q123_32, q123_33, q123_35, q123_36, q123_37, q123_38, q123_40, q123_41, q123_44, q123_45, q123_46, q123_47, q123_48, q123_50, q123_51, q123_52, q123_53, q123_55, q123_57, q123_60, q123_62, q123_63, q123_66, q123_67, q123_70, q123_71, q123_73, q123_76, q123_78, q123_81, q123_82, q123_85, q123_87, q123_88, q123_89, q123_92, q123_95, q123_97, q123_98, q123_101, q123_102, q123_105, q123_106, q123_107, q123_108, q123_109, q123_112, q123_113, q123_114, q123_115, q123_116, q123_119, q123_120, q123_123, q123_124, q123_125, q123_128, q123_131, q123_132, q123_135, q123_136, q123_137, q123_138, q123_140, q123_141, q123_144, q123_145, q123_146, q123_147, q123_148, q123_149, q123_152, q123_153, q123_154, q123_157, q123_158, q123_161, q123_164, q123_165, q123_168, q123_169, q123_170, gf_M0, gf_M10, gf_M11, nI_add, pk_mul, ald_n92 (show f < 488 by omega), ald_n92 (show f + 1 + 2 * i < 488 by omega), ald_n92 (show f + 2 + 2 * i < 488 by omega), hl, hW, hV, a, ast_n98 hn, if_true, if_false, Option.bind_some, Option.toList_some, Option.toList_none, List.cons_append, List.nil_append, zB_go, zB_end, zB_no, zokv_i, zokv_r, zokv_n, eq_self]
theorem w123_1 {f n i len c : Nat} {u : Int32} {w5 w6 : Value} (hl : h 92 f = nI len) (hi : i < len) (hf : f + 2 * len < 488) (hW : h 92 (f + 1 + 2 * i) = nI 1) (hV : h 92 (f + 2 + 2 * i) = nI c) (hc : c < 128) (hn : n < 64) : zXf zT znl (d + 1) 123 14 [.ref 91, .int u, .int (nI f), .int (nI n), .int (nI i), w5, w6] [] h = zXf zT znl (d + 1) 123 14 [.ref 91, .int u, .int (nI f), .int (nI (n + 1)), .int (nI (i + 1)), .int (nI 1), .int (nI c)] [] (zup h 98 n (h 97 c)) := by
  have a : ¬ (nI len ≤ nI i) := nI_ge hi (by omega)
  rw [q123_14]
  simp only [q123_0, q123_3, q123_5, q123_6, q123_7, q123_8, q123_9, q123_10, q123_11, q123_12, q123_16, q123_17, q123_20, q123_21, q123_22, q123_25, q123_26, q123_29, q123_30, q123_31, q123_32, q123_33, q123_35, q123_36, q123_37, q123_38, q123_40, q123_41, q123_44, q123_45, q123_46, q123_47, q123_48, q123_50, q123_51, q123_52, q123_53, q123_55, q123_57, q123_60, q123_62, q123_63, q123_66, q123_67, q123_70, q123_71, q123_73, q123_76, q123_78, q123_81, q123_82, q123_85, q123_87, q123_88, q123_89, q123_92, q123_95, q123_97, q123_98, q123_101, q123_102, q123_105, q123_106, q123_107, q123_108, q123_109, q123_112, q123_113, q123_114, q123_115, q123_116, q123_119, q123_120, q123_123, q123_124, q123_125, q123_128, q123_131, q123_132, q123_135, q123_136, q123_137, q123_138, q123_140, q123_141, q123_144, q123_145, q123_146, q123_147, q123_148, q123_149, q123_152, q123_153, q123_154, q123_157, q123_158, q123_161, q123_164, q123_165, q123_168, q123_169, q123_170, gf_M0, gf_M10, gf_M11, nI_add, pk_mul, ald_n92 (show f < 488 by omega), ald_n92 (show f + 1 + 2 * i < 488 by omega), ald_n92 (show f + 2 + 2 * i < 488 by omega), ald_n97 hc, hl, hW, hV, a, zn1_0', ast_n98 hn, if_true, if_false, Option.bind_some, Option.toList_some, Option.toList_none, List.cons_append, List.nil_append, zB_go, zB_end, zB_no, zokv_i, zokv_r, zokv_n, eq_self]
theorem w123_2 {f n i len : Nat} {u V : Int32} {w5 w6 : Value} (hl : h 92 f = nI len) (hi : i < len) (hf : f + 2 * len < 488) (hW : h 92 (f + 1 + 2 * i) = nI 2) (hV : h 92 (f + 2 + 2 * i) = V) (hn : n < 64) : zXf zT znl (d + 1) 123 14 [.ref 91, .int u, .int (nI f), .int (nI (n + 1)), .int (nI i), w5, w6] [] h = zXf zT znl (d + 1) 123 14 [.ref 91, .int u, .int (nI f), .int (nI (n + 1)), .int (nI (i + 1)), .int (nI 2), .int V] [] (zup h 98 n (if h 98 n = nI 0 then nI 1 else nI 0)) := by
  have a : ¬ (nI len ≤ nI i) := nI_ge hi (by omega)
  rw [q123_14]
  by_cases z : h 98 n = nI 0
  · simp only [q123_0, q123_3, q123_5, q123_6, q123_7, q123_8, q123_9, q123_10, q123_11, q123_12, q123_16, q123_17, q123_20, q123_21, q123_22, q123_25, q123_26, q123_29, q123_30, q123_31, q123_32, q123_33, q123_35, q123_36, q123_37, q123_38, q123_40, q123_41, q123_44, q123_45, q123_46, q123_47, q123_48, q123_50, q123_51, q123_52, q123_53, q123_55, q123_57, q123_60, q123_62, q123_63, q123_66, q123_67, q123_70, q123_71, q123_73, q123_76, q123_78, q123_81, q123_82, q123_85, q123_87, q123_88, q123_89, q123_92, q123_95, q123_97, q123_98, q123_101, q123_102, q123_105, q123_106, q123_107, q123_108, q123_109, q123_112, q123_113, q123_114, q123_115, q123_116, q123_119, q123_120, q123_123, q123_124, q123_125, q123_128, q123_131, q123_132, q123_135, q123_136, q123_137, q123_138, q123_140, q123_141, q123_144, q123_145, q123_146, q123_147, q123_148, q123_149, q123_152, q123_153, q123_154, q123_157, q123_158, q123_161, q123_164, q123_165, q123_168, q123_169, q123_170, gf_M0, gf_M10, gf_M11, nI_add, pk_mul, ald_n92 (show f < 488 by omega), ald_n92 (show f + 1 + 2 * i < 488 by omega), ald_n92 (show f + 2 + 2 * i < 488 by omega), ald_n98 hn, nI_sub1, hl, hW, hV, a, z, zn2_0, zn2_1, ast_n98 hn, if_true, if_false, Option.bind_some, Option.toList_some, Option.toList_none, List.cons_append, List.nil_append, zB_go, zB_end, zB_no, zokv_i, zokv_r, zokv_n, eq_self]
  · simp only [q123_0, q123_3, q123_5, q123_6, q123_7, q123_8, q123_9, q123_10, q123_11, q123_12, q123_16, q123_17, q123_20, q123_21, q123_22, q123_25, q123_26, q123_29, q123_30, q123_31, q123_32, q123_33, q123_35, q123_36, q123_37, q123_38, q123_40, q123_41, q123_44, q123_45, q123_46, q123_47, q123_48, q123_50, q123_51, q123_52, q123_53, q123_55, q123_57, q123_60, q123_62, q123_63, q123_66, q123_67, q123_70, q123_71, q123_73, q123_76, q123_78, q123_81, q123_82, q123_85, q123_87, q123_88, q123_89, q123_92, q123_95, q123_97, q123_98, q123_101, q123_102, q123_105, q123_106, q123_107, q123_108, q123_109, q123_112, q123_113, q123_114, q123_115, q123_116, q123_119, q123_120, q123_123, q123_124, q123_125, q123_128, q123_131, q123_132, q123_135, q123_136, q123_137, q123_138, q123_140, q123_141, q123_144, q123_145, q123_146, q123_147, q123_148, q123_149, q123_152, q123_153, q123_154, q123_157, q123_158, q123_161, q123_164, q123_165, q123_168, q123_169, q123_170, gf_M0, gf_M10, gf_M11, nI_add, pk_mul, ald_n92 (show f < 488 by omega), ald_n92 (show f + 1 + 2 * i < 488 by omega), ald_n92 (show f + 2 + 2 * i < 488 by omega), ald_n98 hn, nI_sub1, hl, hW, hV, a, z, zn2_0, zn2_1, ast_n98 hn, if_true, if_false, Option.bind_some, Option.toList_some, Option.toList_none, List.cons_append, List.nil_append, zB_go, zB_end, zB_no, zokv_i, zokv_r, zokv_n, eq_self]
theorem w123_3 {f n i len : Nat} {u V : Int32} {w5 w6 : Value} (hl : h 92 f = nI len) (hi : i < len) (hf : f + 2 * len < 488) (hW : h 92 (f + 1 + 2 * i) = nI 3) (hV : h 92 (f + 2 + 2 * i) = V) (hs : zsig V) (hn : n + 1 < 64) : zXf zT znl (d + 1) 123 14 [.ref 91, .int u, .int (nI f), .int (nI (n + 1 + 1)), .int (nI i), w5, w6] [] h = zXf zT znl (d + 1) 123 14 [.ref 91, .int u, .int (nI f), .int (nI (n + 1)), .int (nI (i + 1)), .int (nI 3), .int V] [] (zup h 98 n (zjoin V (h 98 n) (h 98 (n + 1)))) := by
  have a : ¬ (nI len ≤ nI i) := nI_ge hi (by omega)
  have j := fun d x y => c122 d h V x y hs
  rw [q123_14]
  simp only [q123_0, q123_3, q123_5, q123_6, q123_7, q123_8, q123_9, q123_10, q123_11, q123_12, q123_16, q123_17, q123_20, q123_21, q123_22, q123_25, q123_26, q123_29, q123_30, q123_31, q123_32, q123_33, q123_35, q123_36, q123_37, q123_38, q123_40, q123_41, q123_44, q123_45, q123_46, q123_47, q123_48, q123_50, q123_51, q123_52, q123_53, q123_55, q123_57, q123_60, q123_62, q123_63, q123_66, q123_67, q123_70, q123_71, q123_73, q123_76, q123_78, q123_81, q123_82, q123_85, q123_87, q123_88, q123_89, q123_92, q123_95, q123_97, q123_98, q123_101, q123_102, q123_105, q123_106, q123_107, q123_108, q123_109, q123_112, q123_113, q123_114, q123_115, q123_116, q123_119, q123_120, q123_123, q123_124, q123_125, q123_128, q123_131, q123_132, q123_135, q123_136, q123_137, q123_138, q123_140, q123_141, q123_144, q123_145, q123_146, q123_147, q123_148, q123_149, q123_152, q123_153, q123_154, q123_157, q123_158, q123_161, q123_164, q123_165, q123_168, q123_169, q123_170, gf_M0, gf_M10, gf_M11, nI_m1, pk_mul, nI_add, ald_n92 (show f < 488 by omega), ald_n92 (show f + 1 + 2 * i < 488 by omega), ald_n92 (show f + 2 + 2 * i < 488 by omega), ald_n98 hn, ald_n98 (show n < 64 by omega), nI_sub1, hl, hW, hV, a, j, zn3_0, zn3_1, zn3_2, ast_n98 (show n < 64 by omega), if_true, if_false, Option.bind_some, Option.toList_some, Option.toList_none, List.cons_append, List.nil_append, zB_go, zB_end, zB_no, zokv_i, zokv_r, zokv_n, eq_self]
end WK
