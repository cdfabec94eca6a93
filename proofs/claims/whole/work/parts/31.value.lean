/-! ===== texts worked out: the class ===== -/
theorem zwi_in {c m : Nat} (hc : c ≤ m) (hm : m < 1000) : zwi (nI c) (nI 0) (nI m) = nI 1 := by
  unfold zwi
  rw [if_neg (nI_nlt (Nat.zero_le _) (by omega)), if_neg (nI_nlt hc (by omega))]
theorem zsig_ne {V : Int32} (h : zsig V) : ¬ V = nI 110 ∧ ¬ V = nI 97 ∧ ¬ V = nI 33 := by
  rcases h with rfl | rfl | rfl | rfl | rfl | rfl | rfl | rfl | rfl | rfl <;> decide
theorem zn97 : ¬ (nI 97 = nI 110) := by decide
theorem zn33 : ¬ (nI 33 = nI 110) := by decide
theorem zn33' : ¬ (nI 33 = nI 97) := by decide
section VK
variable (d : Nat) (h : zH)
theorem w83_0 {w t n i len : Nat} {V : Int32} {w4 w5 : Value} (ht : zTx t) (hl : h t 3 = nI len) (hi : i < len) (hf : len ≤ 60) (hW : h (t + 1) i = nI 110) (hV : h (t + 2) i = V) (hn : n < 60) : zXf zT znl (d + 1) 83 4 [.ref t, .ref (w + 20), .int (nI n), .int (nI i), w4, w5] [] h = zXf zT znl (d + 1) 83 4 [.ref t, .ref (w + 20), .int (nI (n + 1)), .int (nI (i + 1)), .int (nI 110), .int V] [] (zup h (t + 3) n V) := by
  have a : ¬ (nI len ≤ nI i) := nI_ge hi (by omega)
  have b : ¬ (nI 60 ≤ nI n) := nI_ge hn (by decide)
  rw [q83_4]
  simp only [q83_0, q83_1, q83_2, q83_3, q83_5, q83_6, q83_9, q83_12, q83_13, q83_16, q83_17, q83_18, q83_20, q83_21, q83_24, q83_25, q83_26, q83_28, q83_30, q83_32, q83_35, q83_36, q83_38, q83_41, q83_42, q83_45, q83_46, q83_48, q83_49, q83_52, q83_55, q83_57, q83_59, q83_62, q83_63, q83_65, q83_68, q83_70, q83_71, q83_72, q83_73, q83_74, q83_75, q83_78, q83_81, q83_82, q83_85, q83_86, q83_87, q83_89, q83_90, q83_91, q83_94, q83_97, q83_99, q83_101, q83_104, q83_105, q83_108, q83_109, q83_112, q83_113, q83_114, q83_115, q83_116, q83_119, q83_120, q83_121, q83_122, q83_123, q83_126, q83_127, q83_130, q83_131, q83_132, q83_135, q83_136, q83_137, q83_140, q83_143, q83_144, q83_147, q83_148, q83_149, q83_150, q83_152, q83_153, q83_156, q83_157, q83_158, q83_159, q83_160, q83_161, q83_164, q83_165, q83_166, q83_169, q83_170, q83_173, q83_176, q83_177, q83_180, q83_181, q83_184, q83_185, q83_186, q83_187, q83_188, q83_191, q83_192, gf_T0 ht, gf_T1 ht, gf_T2 ht, gf_T3 ht, nI_add, ald_T1 ht (show i < 60 by omega), ald_T2 ht (show i < 60 by omega), hl, hW, hV, a, b, ast_T3 ht hn, if_true, if_false, Option.bind_some, Option.toList_some, Option.toList_none, List.cons_append, List.nil_append, zB_go, zB_end, zB_no, zokv_i, zokv_r, zokv_n, eq_self]
theorem w83_1 {w t n i len c : Nat} {w4 w5 : Value} (hw : zW w) (ht : zTx t) (hl : h t 3 = nI len) (hi : i < len) (hf : len ≤ 60) (hW : h (t + 1) i = nI 97) (hV : h (t + 2) i = nI c) (hc : c < 5) (hn : n < 60) : zXf zT znl (d + 1) 83 4 [.ref t, .ref (w + 20), .int (nI n), .int (nI i), w4, w5] [] h = zXf zT znl (d + 1) 83 4 [.ref t, .ref (w + 20), .int (nI (n + 1)), .int (nI (i + 1)), .int (nI 97), .int (nI c)] [] (zup h (t + 3) n (h (w + 20) c)) := by
  have a : ¬ (nI len ≤ nI i) := nI_ge hi (by omega)
  have b : ¬ (nI 60 ≤ nI n) := nI_ge hn (by decide)
  have e : nI 5 - nI 1 = nI 4 := by decide
  rw [q83_4]
  simp only [q83_0, q83_1, q83_2, q83_3, q83_5, q83_6, q83_9, q83_12, q83_13, q83_16, q83_17, q83_18, q83_20, q83_21, q83_24, q83_25, q83_26, q83_28, q83_30, q83_32, q83_35, q83_36, q83_38, q83_41, q83_42, q83_45, q83_46, q83_48, q83_49, q83_52, q83_55, q83_57, q83_59, q83_62, q83_63, q83_65, q83_68, q83_70, q83_71, q83_72, q83_73, q83_74, q83_75, q83_78, q83_81, q83_82, q83_85, q83_86, q83_87, q83_89, q83_90, q83_91, q83_94, q83_97, q83_99, q83_101, q83_104, q83_105, q83_108, q83_109, q83_112, q83_113, q83_114, q83_115, q83_116, q83_119, q83_120, q83_121, q83_122, q83_123, q83_126, q83_127, q83_130, q83_131, q83_132, q83_135, q83_136, q83_137, q83_140, q83_143, q83_144, q83_147, q83_148, q83_149, q83_150, q83_152, q83_153, q83_156, q83_157, q83_158, q83_159, q83_160, q83_161, q83_164, q83_165, q83_166, q83_169, q83_170, q83_173, q83_176, q83_177, q83_180, q83_181, q83_184, q83_185, q83_186, q83_187, q83_188, q83_191, q83_192, gf_T0 ht, gf_T1 ht, gf_T2 ht, gf_T3 ht, nI_add, ald_T1 ht (show i < 60 by omega), ald_T2 ht (show i < 60 by omega), aln_W20 hw, e, c0, zwi_in (show c ≤ 4 by omega) (show 4 < 1000 by decide), ald_W20 hw hc, hl, hW, hV, a, b, zn97, zn1_0', ast_T3 ht hn, if_true, if_false, Option.bind_some, Option.toList_some, Option.toList_none, List.cons_append, List.nil_append, zB_go, zB_end, zB_no, zokv_i, zokv_r, zokv_n, eq_self]
theorem w83_2 {w t n i len : Nat} {V : Int32} {w4 w5 : Value} (ht : zTx t) (hl : h t 3 = nI len) (hi : i < len) (hf : len ≤ 60) (hW : h (t + 1) i = nI 33) (hV : h (t + 2) i = V) (hn : n < 60) : zXf zT znl (d + 1) 83 4 [.ref t, .ref (w + 20), .int (nI (n + 1)), .int (nI i), w4, w5] [] h = zXf zT znl (d + 1) 83 4 [.ref t, .ref (w + 20), .int (nI (n + 1)), .int (nI (i + 1)), .int (nI 33), .int V] [] (zup h (t + 3) n (if h (t + 3) n = nI 0 then nI 1 else nI 0)) := by
  have a : ¬ (nI len ≤ nI i) := nI_ge hi (by omega)
  have b : ¬ (nI (n + 1) ≤ nI 0) := nI_ge (Nat.succ_pos _) (by omega)
  rw [q83_4]
  by_cases z : h (t + 3) n = nI 0
  · simp only [q83_0, q83_1, q83_2, q83_3, q83_5, q83_6, q83_9, q83_12, q83_13, q83_16, q83_17, q83_18, q83_20, q83_21, q83_24, q83_25, q83_26, q83_28, q83_30, q83_32, q83_35, q83_36, q83_38, q83_41, q83_42, q83_45, q83_46, q83_48, q83_49, q83_52, q83_55, q83_57, q83_59, q83_62, q83_63, q83_65, q83_68, q83_70, q83_71, q83_72, q83_73, q83_74, q83_75, q83_78, q83_81, q83_82, q83_85, q83_86, q83_87, q83_89, q83_90, q83_91, q83_94, q83_97, q83_99, q83_101, q83_104, q83_105, q83_108, q83_109, q83_112, q83_113, q83_114, q83_115, q83_116, q83_119, q83_120, q83_121, q83_122, q83_123, q83_126, q83_127, q83_130, q83_131, q83_132, q83_135, q83_136, q83_137, q83_140, q83_143, q83_144, q83_147, q83_148, q83_149, q83_150, q83_152, q83_153, q83_156, q83_157, q83_158, q83_159, q83_160, q83_161, q83_164, q83_165, q83_166, q83_169, q83_170, q83_173, q83_176, q83_177, q83_180, q83_181, q83_184, q83_185, q83_186, q83_187, q83_188, q83_191, q83_192, gf_T0 ht, gf_T1 ht, gf_T2 ht, gf_T3 ht, nI_add, ald_T1 ht (show i < 60 by omega), ald_T2 ht (show i < 60 by omega), ald_T3 ht hn, nI_sub1, hl, hW, hV, a, b, z, zn33, zn33', ast_T3 ht hn, if_true, if_false, Option.bind_some, Option.toList_some, Option.toList_none, List.cons_append, List.nil_append, zB_go, zB_end, zB_no, zokv_i, zokv_r, zokv_n, eq_self]
  · simp only [q83_0, q83_1, q83_2, q83_3, q83_5, q83_6, q83_9, q83_12, q83_13, q83_16, q83_17, q83_18, q83_20, q83_21, q83_24, q83_25, q83_26, q83_28, q83_30, q83_32, q83_35, q83_36, q83_38, q83_41, q83_42, q83_45, q83_46, q83_48, q83_49, q83_52, q83_55, q83_57, q83_59, q83_62, q83_63, q83_65, q83_68, q83_70, q83_71, q83_72, q83_73, q83_74, q83_75, q83_78, q83_81, q83_82, q83_85, q83_86, q83_87, q83_89, q83_90, q83_91, q83_94, q83_97, q83_99, q83_101, q83_104, q83_105, q83_108, q83_109, q83_112, q83_113, q83_114, q83_115, q83_116, q83_119, q83_120, q83_121, q83_122, q83_123, q83_126, q83_127, q83_130, q83_131, q83_132, q83_135, q83_136, q83_137, q83_140, q83_143, q83_144, q83_147, q83_148, q83_149, q83_150, q83_152, q83_153, q83_156, q83_157, q83_158, q83_159, q83_160, q83_161, q83_164, q83_165, q83_166, q83_169, q83_170, q83_173, q83_176, q83_177, q83_180, q83_181, q83_184, q83_185, q83_186, q83_187, q83_188, q83_191, q83_192, gf_T0 ht, gf_T1 ht, gf_T2 ht, gf_T3 ht, nI_add, ald_T1 ht (show i < 60 by omega), ald_T2 ht (show i < 60 by omega), ald_T3 ht hn, nI_sub1, hl, hW, hV, a, b, z, zn33, zn33', ast_T3 ht hn, if_true, if_false, Option.bind_some, Option.toList_some, Option.toList_none, List.cons_append, List.nil_append, zB_go, zB_end, zB_no, zokv_i, zokv_r, zokv_n, eq_self]
theorem w83_3 {w t n i len : Nat} {V o : Int32} {w4 w5 : Value} (ht : zTx t) (hl : h t 3 = nI len) (hi : i < len) (hf : len ≤ 60) (hW : h (t + 1) i = V) (hV : h (t + 2) i = o) (hs : zsig V) (hn : n + 1 < 60) : zXf zT znl (d + 1) 83 4 [.ref t, .ref (w + 20), .int (nI (n + 1 + 1)), .int (nI i), w4, w5] [] h = zXf zT znl (d + 1) 83 4 [.ref t, .ref (w + 20), .int (nI (n + 1)), .int (nI (i + 1)), .int V, .int o] [] (zup h (t + 3) n (zjoin V (h (t + 3) n) (h (t + 3) (n + 1)))) := by
  have a : ¬ (nI len ≤ nI i) := nI_ge hi (by omega)
  have b : ¬ (nI (n + 1 + 1) ≤ nI 1) := nI_ge (by omega) (by omega)
  obtain ⟨v1, v2, v3⟩ := zsig_ne hs
  have j := fun d x y => c82 d h V x y hs
  rw [q83_4]
  simp only [q83_0, q83_1, q83_2, q83_3, q83_5, q83_6, q83_9, q83_12, q83_13, q83_16, q83_17, q83_18, q83_20, q83_21, q83_24, q83_25, q83_26, q83_28, q83_30, q83_32, q83_35, q83_36, q83_38, q83_41, q83_42, q83_45, q83_46, q83_48, q83_49, q83_52, q83_55, q83_57, q83_59, q83_62, q83_63, q83_65, q83_68, q83_70, q83_71, q83_72, q83_73, q83_74, q83_75, q83_78, q83_81, q83_82, q83_85, q83_86, q83_87, q83_89, q83_90, q83_91, q83_94, q83_97, q83_99, q83_101, q83_104, q83_105, q83_108, q83_109, q83_112, q83_113, q83_114, q83_115, q83_116, q83_119, q83_120, q83_121, q83_122, q83_123, q83_126, q83_127, q83_130, q83_131, q83_132, q83_135, q83_136, q83_137, q83_140, q83_143, q83_144, q83_147, q83_148, q83_149, q83_150, q83_152, q83_153, q83_156, q83_157, q83_158, q83_159, q83_160, q83_161, q83_164, q83_165, q83_166, q83_169, q83_170, q83_173, q83_176, q83_177, q83_180, q83_181, q83_184, q83_185, q83_186, q83_187, q83_188, q83_191, q83_192, gf_T0 ht, gf_T1 ht, gf_T2 ht, gf_T3 ht, nI_m1, nI_add, ald_T1 ht (show i < 60 by omega), ald_T2 ht (show i < 60 by omega), ald_T3 ht hn, ald_T3 ht (show n < 60 by omega), nI_sub1, hl, hW, hV, a, b, j, v1, v2, v3, ast_T3 ht (show n < 60 by omega), if_true, if_false, Option.bind_some, Option.toList_some, Option.toList_none, List.cons_append, List.nil_append, zB_go, zB_end, zB_no, zokv_i, zokv_r, zokv_n, eq_self]
theorem w83 {ok : Int32 → Prop} {ix : Int32 → Nat} (hok : ∀ v, ok v → ix v < 5) {w t : Nat} (hw0 : zW w) (ht : zTx t) : ∀ (r : List (Int32 × Int32)) (st : List Int32) (i : Nat) (h : zH) (w4 w5 : Value), h t 3 = nI (i + r.length) → i + r.length ≤ 60 → st.length ≤ i → zwf ok r st.length → (∀ j q, r[j]? = some q → (q.1 = nI 0 → h (t + 1) (i + j) = nI 110 ∧ h (t + 2) (i + j) = q.2) ∧ (q.1 = nI 1 → h (t + 1) (i + j) = nI 97 ∧ h (t + 2) (i + j) = nI (ix q.2)) ∧ (q.1 = nI 2 → h (t + 1) (i + j) = nI 33) ∧ (q.1 = nI 3 → h (t + 1) (i + j) = q.2)) → zpl (h (t + 3)) st →
    ∃ h', zXf zT znl (d + 1) 83 4 [.ref t, .ref (w + 20), .int (nI st.length), .int (nI i), w4, w5] [] h = some (some (.int ((zrun (fun v => h (w + 20) (ix v)) r st).headD (nI 0))), h') ∧ ∀ a, a ≠ t + 3 → h' a = h a := by
  have hwt : w + 20 ≠ t + 3 := by
    rcases hw0 with rfl | rfl | rfl <;> rcases ht with rfl | rfl | rfl | rfl | rfl | rfl | rfl <;> decide
  intro r
  induction r with
  | nil =>
    intro st i h w4 w5 hl hi hs hw hq hp
    obtain ⟨x, rfl⟩ : ∃ x, st = [x] := by
      match st, hw with
      | [x], _ => exact ⟨x, rfl⟩
    have hx : h (t + 3) 0 = x := hp.1
    have a : nI i ≤ nI i := Int32.le_refl _
    have b : ¬ (nI (0 + 1) ≤ nI 0) := by decide
    refine ⟨h, ?_, fun _ _ => rfl⟩
    rw [q83_4]
    simp only [List.length_nil, Nat.add_zero] at hl
    simp only [List.length_cons, List.length_nil]
    simp only [q83_5, q83_6, q83_9, q83_176, q83_177, q83_180, q83_181, q83_184, q83_185, q83_186, q83_187, q83_188, q83_192, gf_T2 ht, gf_T3 ht, ald_T3 ht (show 0 < 60 by decide), nI_sub1, hl, hx, a, b, if_true, if_false, zrun, List.headD_cons, Option.bind_some, Option.toList_some, Option.toList_none, List.cons_append, List.nil_append, zB_go, zB_end, zB_no, zokv_i, zokv_r, zokv_n, eq_self]
  | cons q r ih =>
    intro st i h w4 w5 hl hi hs hw hq hp
    have q0 := hq 0 q rfl
    simp only [Nat.add_zero] at q0
    have hlen : i + (q :: r).length = i + 1 + r.length := by simp only [List.length_cons]; omega
    rw [hlen] at hl hi
    have next : ∀ (st' : List Int32) (h1 : zH) (w4 w5 : Value), (∀ b, b ≠ t + 3 → h1 b = h b) → st'.length ≤ i + 1 → zwf ok r st'.length → zpl (h1 (t + 3)) st' → zst1 (fun v => h (w + 20) (ix v)) q st = st' →
        ∃ h', zXf zT znl (d + 1) 83 4 [.ref t, .ref (w + 20), .int (nI st'.length), .int (nI (i + 1)), w4, w5] [] h1 = some (some (.int ((zrun (fun v => h (w + 20) (ix v)) (q :: r) st).headD (nI 0))), h') ∧ ∀ a, a ≠ t + 3 → h' a = h a := by
      intro st' h1 w4 w5 he hs' hw' hp' hst
      obtain ⟨h', e1, e2⟩ := ih st' (i + 1) h1 w4 w5 (by rw [he t (by omega)]; exact hl) hi hs' hw' (fun j q' hj => by
        rw [he (t + 1) (by omega), he (t + 2) (by omega)]
        have := hq (j + 1) q' (by simpa using hj)
        rw [show i + 1 + j = i + (j + 1) by omega]
        exact this) hp'
      refine ⟨h', ?_, fun a ha => (e2 a ha).trans (he a ha)⟩
      rw [e1]
      have e97 : h1 (w + 20) = h (w + 20) := he _ hwt
      show some (some (Value.int ((zrun (fun v => h1 (w + 20) (ix v)) r st').headD (nI 0))), h') = some (some (Value.int ((zrun (fun v => h (w + 20) (ix v)) r (zst1 (fun v => h (w + 20) (ix v)) q st)).headD (nI 0))), h')
      rw [e97, hst]
    rcases hw with ⟨z, hw⟩ | ⟨z, hv, hw⟩ | ⟨z, hk, hw⟩ | ⟨z, hv, hk, hw⟩
    · rw [w83_0 d h (len := i + 1 + r.length) ht hl (by omega) hi (q0.1 z).1 (q0.1 z).2 (by omega)]
      exact next (q.2 :: st) _ _ _ (fun b hb => zup_row_ne hb) (by simp only [List.length_cons]; omega) hw (zpl_push hp zup_at (fun j hj => zup_o (by omega))) (by unfold zst1; rw [if_pos z])
    · rw [w83_1 d h (len := i + 1 + r.length) hw0 ht hl (by omega) hi (q0.2.1 z).1 (q0.2.1 z).2 (hok _ hv) (by omega)]
      refine next (h (w + 20) (ix q.2) :: st) _ _ _ (fun b hb => zup_row_ne hb) (by simp only [List.length_cons]; omega) hw (zpl_push hp zup_at (fun j hj => zup_o (by omega))) ?_
      unfold zst1
      rw [if_neg (by rw [z]; decide), if_pos z]
    · match st, hk, hp, hs, hw, next with
      | x :: st, hk, hp, hs, hw, next =>
        have hx : h (t + 3) st.length = x := hp.1
        simp only [List.length_cons] at hs
        rw [List.length_cons, w83_2 d h (len := i + 1 + r.length) ht hl (by omega) hi (q0.2.2.1 z) rfl (by omega), hx]
        refine next ((if x = nI 0 then nI 1 else nI 0) :: st) _ _ _ (fun b hb => zup_row_ne hb) (by simp only [List.length_cons]; omega) hw (zpl_push hp.2 zup_at (fun j hj => zup_o (by omega))) ?_
        unfold zst1
        rw [if_neg (by rw [z]; decide), if_neg (by rw [z]; decide), if_pos z]
    · match st, hk, hp, hs, hw, next with
      | y :: x :: st, hk, hp, hs, hw, next =>
        have hx : h (t + 3) st.length = x := hp.2.1
        have hy : h (t + 3) (st.length + 1) = y := hp.1
        simp only [List.length_cons] at hs
        rw [List.length_cons, List.length_cons, w83_3 d h (len := i + 1 + r.length) ht hl (by omega) hi (q0.2.2.2 z) rfl hv (by omega), hx, hy]
        refine next (zjoin q.2 x y :: st) _ _ _ (fun b hb => zup_row_ne hb) (by simp only [List.length_cons]; omega) hw (zpl_push hp.2.2 zup_at (fun j hj => zup_o (by omega))) ?_
        unfold zst1
        rw [if_neg (by rw [z]; decide), if_neg (by rw [z]; decide), if_neg (by rw [z]; decide)]
/-- a text stands in the class's Text t -/
def zct2 (h : zH) (t : Nat) (ix : Int32 → Nat) (T : List (Int32 × Int32)) : Prop := h t 3 = nI T.length ∧ T.length ≤ 60 ∧ ∀ j q, T[j]? = some q → (q.1 = nI 0 → h (t + 1) j = nI 110 ∧ h (t + 2) j = q.2) ∧ (q.1 = nI 1 → h (t + 1) j = nI 97 ∧ h (t + 2) j = nI (ix q.2)) ∧ (q.1 = nI 2 → h (t + 1) j = nI 33) ∧ (q.1 = nI 3 → h (t + 1) j = q.2)
theorem c83 {ok : Int32 → Prop} {ix : Int32 → Nat} (hok : ∀ v, ok v → ix v < 5) {w t : Nat} (hw0 : zW w) (ht : zTx t) {T : List (Int32 × Int32)} (hT : zct2 h t ix T) (hw : zwf ok T 0) : ∃ h', zCf zT znl (d + 2) 83 [.ref t, .ref (w + 20)] h = some (some (.int ((zrun (fun v => h (w + 20) (ix v)) T []).headD (nI 0))), h') ∧ ∀ a, a ≠ t + 3 → h' a = h a := by
  obtain ⟨h1, h2, h3⟩ := hT
  have h9 := w83 d hok hw0 ht T [] 0 h Value.null Value.null (by rw [Nat.zero_add]; exact h1) (by omega) (Nat.le_refl _) hw (fun j q hj => by rw [Nat.zero_add]; exact h3 j q hj) trivial
  simp only [List.length_nil] at h9
  simp only [e83, q83_0, q83_1, q83_2, q83_3, Option.bind_some, Option.toList_some, Option.toList_none, List.cons_append, List.nil_append, zB_go, zB_end, zB_no, zokv_i, zokv_r, zokv_n, eq_self]
  exact h9
end VK
