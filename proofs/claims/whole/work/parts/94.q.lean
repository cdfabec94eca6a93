/-! ===== the readers: Q ===== -/
theorem zpx0a : zpos (nms 0) (nI 104) = nI (zix0 (nI 104)) := by decide +kernel
theorem zpx0b : zpos (nms 0) (nI 103) = nI (zix0 (nI 103)) := by decide +kernel
theorem zpx0c : zpos (nms 0) (nI 102) = nI (zix0 (nI 102)) := by decide +kernel
theorem zpx0d : zpos (nms 0) (nI 118) = nI (zix0 (nI 118)) := by decide +kernel
theorem zpx0e : zpos (nms 0) (nI 119) = nI (zix0 (nI 119)) := by decide +kernel
theorem zpx1a : zpos (nms 1) (nI 104) = nI (zix1 (nI 104)) := by decide +kernel
theorem zpx1b : zpos (nms 1) (nI 103) = nI (zix1 (nI 103)) := by decide +kernel
theorem zpx1c : zpos (nms 1) (nI 115) = nI (zix1 (nI 115)) := by decide +kernel
theorem zixu_0 : zixu 0 = zix0 := if_pos rfl
theorem zixu_1 : zixu 1 = zix1 := if_neg (by decide)
theorem zpx_0 {b : Nat} (y : b = 104 ∨ b = 103 ∨ b = 102 ∨ b = 118 ∨ b = 119) : zpos (nms 0) (nI b) = nI (zix0 (nI b)) ∧ zok0 (nI b) := by
  unfold zok0
  rcases y with rfl | rfl | rfl | rfl | rfl
  · exact ⟨zpx0a, Or.inr (Or.inr (Or.inl rfl))⟩
  · exact ⟨zpx0b, Or.inr (Or.inr (Or.inr (Or.inl rfl)))⟩
  · exact ⟨zpx0c, Or.inl rfl⟩
  · exact ⟨zpx0d, Or.inr (Or.inl rfl)⟩
  · exact ⟨zpx0e, Or.inr (Or.inr (Or.inr (Or.inr rfl)))⟩
theorem zpx_1 {b : Nat} (y : b = 104 ∨ b = 103 ∨ b = 115) : zpos (nms 1) (nI b) = nI (zix1 (nI b)) ∧ zok1 (nI b) := by
  unfold zok1
  rcases y with rfl | rfl | rfl
  · exact ⟨zpx1a, Or.inr (Or.inl rfl)⟩
  · exact ⟨zpx1b, Or.inr (Or.inr rfl)⟩
  · exact ⟨zpx1c, Or.inl rfl⟩
theorem zpx {u b : Nat} (hu : u < 2) (hb : b < 256) (z : zin (nms u) b = true) : zpos (nms u) (nI b) = nI (zixu u (nI b)) ∧ zoku u (nI b) := by
  obtain rfl | rfl : u = 0 ∨ u = 1 := by omega
  · rw [zin_n0 b hb] at z
    have y := zpx_0 (of_decide_eq_true z)
    rw [zixu_0]
    exact ⟨y.1, by unfold zoku; rw [if_pos rfl]; exact y.2⟩
  · rw [zin_n1 b hb] at z
    have y := zpx_1 (of_decide_eq_true z)
    rw [zixu_1]
    exact ⟨y.1, by unfold zoku; rw [if_neg (by decide)]; exact y.2⟩
theorem zin_nd {u b : Nat} (hb : b < 256) (z : zin (nms u) b = true) (hu : u < 2) : ¬ (48 ≤ b ∧ b ≤ 57) := by
  obtain rfl | rfl : u = 0 ∨ u = 1 := by omega
  · rw [zin_n0 b hb] at z
    have y := of_decide_eq_true z
    omega
  · rw [zin_n1 b hb] at z
    have y := of_decide_eq_true z
    omega
theorem zin_ns {u b : Nat} (hb : b = 33 ∨ b = 40) (hu : u < 2) : zin (nms u) b = false := by
  obtain rfl | rfl : u = 0 ∨ u = 1 := by omega
  · rcases hb with rfl | rfl
    · rw [zin_n0 _ (by decide)]; rfl
    · rw [zin_n0 _ (by decide)]; rfl
  · rcases hb with rfl | rfl
    · rw [zin_n1 _ (by decide)]; rfl
    · rw [zin_n1 _ (by decide)]; rfl
theorem zFs_up {T u p : Nat} {h : zH} (s : zFs T u p h) {L : Nat} (hL : L ≤ 60) {h' : zH} (c1 : h' 74 3 = nI L) (f : h' 73 = h 73) : zFs T u p h' := by
  obtain ⟨r1, r2, r3, r4, -⟩ := s
  unfold zFs
  rw [f]
  exact ⟨r1, r2, r3, r4, L, hL, c1⟩
section O94
variable {tp : Nat → Nat} {T u p o : Nat} (e e' : Nat)
theorem c87 (hT : T ≤ 60) (ht : ∀ i, i < 60 → tp i < 256) {L : List (Int32 × Int32)} {h : zH} (hl : L.length < 60) (hp : p ≤ T) (s : zCs tp T u p L h) (d : Nat) : ∃ h', zCf zT znl (d + 2) 87 [.ref 73] h = some (none, h') ∧ zCs tp T u (zdg tp T 4 p (nI 0)).2 (L ++ [(nI 0, (zdg tp T 4 p (nI 0)).1)]) h' ∧ zCfr h h' := by
  obtain ⟨h1, i1, a, b, c⟩ := w87 d hT ht 4 0 p (nI 0) L h rfl hp s
  have en : zenc (zixu u) (nI 0, (zdg tp T 4 p (nI 0)).1) (nI 110) (zdg tp T 4 p (nI 0)).1 := ⟨fun _ => ⟨rfl, rfl⟩, fun x => absurd x (show ¬ nI 0 = nI 1 by decide), fun x => absurd x (show ¬ nI 0 = nI 2 by decide), fun x => absurd x (show ¬ nI 0 = nI 3 by decide)⟩
  obtain ⟨h2, c1, c2, c3, c4⟩ := c79 d b.2.2 hl en
  refine ⟨h2, ?_, zCs_add b c2 c4, zCfr_trans c ⟨fun a _ x y z => c4 a x y z, c3⟩⟩
  simp only [e87, q87_0, q87_1, q87_2, q87_3, Option.bind_some, Option.toList_some, Option.toList_none, List.cons_append, List.nil_append, zB_go, zB_end, zB_no, zokv_i, zokv_r, zokv_n, eq_self]
  rw [a]
  simp only [q87_52, q87_53, q87_56, q87_58, q87_59, q87_62, gf_R0, c1, rc_T zTx_74, Option.bind_some, Option.toList_some, Option.toList_none, List.cons_append, List.nil_append, zB_go, zB_end, zB_no, zokv_i, zokv_r, zokv_n, eq_self]
theorem c145_n (hT : T ≤ 60) (ht : ∀ i, i < 60 → tp i < 256) {L : List (Int32 × Int32)} {g : zH} (hl : L.length < 60) (hp : p ≤ T) (s : zMs tp T u p o L g) (d : Nat) (c : Int32) : ∃ g', zXf zT znl (d + 1) 145 42 [.ref 91, .int c, Value.null, Value.null] [] g = some (some (.int (nI 1)), g') ∧ zMs tp T u (zdg tp T 4 p (nI 0)).2 o (L ++ [(nI 0, (zdg tp T 4 p (nI 0)).1)]) g' ∧ zMfr g g' := by
  obtain ⟨g1, i1, a, b, c⟩ := w145 d hT ht (c := c) 4 0 p (nI 0) L g rfl hp s
  obtain ⟨g2, c1, c2, c3⟩ := c141 d (w := nI 0) (v := (zdg tp T 4 p (nI 0)).1) b (by omega)
  refine ⟨g2, ?_, c2, zMfr_trans c c3⟩
  simp only [q145_42, q145_43, q145_44, q145_45, Option.bind_some, Option.toList_some, Option.toList_none, List.cons_append, List.nil_append, zB_go, zB_end, zB_no, zokv_i, zokv_r, zokv_n, eq_self]
  rw [a]
  simp only [q145_94, q145_95, q145_96, q145_97, q145_100, q145_101, c1, rc_M, z01_1, Option.bind_some, Option.toList_some, Option.toList_none, List.cons_append, List.nil_append, zB_go, zB_end, zB_no, zokv_i, zokv_r, zokv_n, eq_self, zn1_0, if_true, if_false, ↓reduceIte]
theorem zQ_end (hu : u < 2) (hT : T ≤ 60) (hp : p = T) : zZ tp T u (e + 9) 90 [.ref 73, .int (nI o)] (e' + 9) 145 [.ref 91] p o := by
  refine Or.inr ⟨p, by omega, fun h L hl s => ⟨_, ?_, zCs_fail s⟩, fun g L hl s => ⟨g, ?_, s.1, zMfr_refl g⟩⟩
  · have nx := fun d => c85_e d s.1 (show T ≤ p by omega) (by omega)
    have n86 := fun d (r : Nat) => c86_n d (s := r) nx
    have n1 : ¬ (-1 : Int32) = nI 33 := by decide
    have n2 : ¬ (-1 : Int32) = nI 40 := by decide
    simp only [e90, q90_0, q90_1, q90_4, q90_5, q90_6, q90_8, q90_10, q90_13, q90_23, q90_24, q90_25, q90_28, q90_31, q90_65, q90_66, q90_68, q90_106, q90_107, q90_109, q90_164, q90_165, q90_168, c0, nx, zwi_dm, gf_R5, n86, n1, n2, c88 _ s.1, rc_R, zn1_0, if_true, if_false, ↓reduceIte, Option.bind_some, Option.toList_some, Option.toList_none, List.cons_append, List.nil_append, zB_go, zB_end, zB_no, zokv_i, zokv_r, zokv_n, eq_self]
  · have nx := fun d => c139_e d s (show T ≤ p by omega) (by omega)
    have n1 : ¬ (-1 : Int32) = nI 33 := by decide
    have n2 : ¬ (-1 : Int32) = nI 40 := by decide
    simp only [e145, q145_0, q145_1, q145_4, q145_5, q145_6, q145_7, q145_10, q145_31, q145_32, q145_34, q145_36, q145_39, q145_102, q145_103, q145_105, q145_142, q145_143, q145_145, q145_171, q145_172, c107, nx, zwi_dm, c140_m _ s hu, n1, n2, z01_0, rc_M, zn1_0, if_true, if_false, ↓reduceIte, Option.bind_some, Option.toList_some, Option.toList_none, List.cons_append, List.nil_append, zB_go, zB_end, zB_no, zokv_i, zokv_r, zokv_n, eq_self]
theorem zQ_num (hu : u < 2) (hT : T ≤ 60) (ht : ∀ i, i < 60 → tp i < 256) (hp : p < T) (dg : 48 ≤ tp p ∧ tp p ≤ 57) : zZ tp T u (e + 9) 90 [.ref 73, .int (nI o)] (e' + 9) 145 [.ref 91] p o := by
  have hb := ht p (by omega)
  have nn : zin (nms u) (tp p) = false := by
    cases z : zin (nms u) (tp p) with
    | false => rfl
    | true => exact absurd dg (zin_nd hb z hu)
  have wi := zwi_d hb
  rw [if_pos dg] at wi
  have le := zdg_le (tp := tp) (T := T) 3 (p + 1) (nI 0 * nI 10 + nI (tp p) - nI 48) (by omega)
  have l2 : zdg tp T 4 p (nI 0) = zdg tp T 3 (p + 1) (nI 0 * nI 10 + nI (tp p) - nI 48) := by
    rw [show zdg tp T 4 p (nI 0) = if p < T ∧ 48 ≤ tp p ∧ tp p ≤ 57 then zdg tp T 3 (p + 1) (nI 0 * nI 10 + nI (tp p) - nI 48) else (nI 0, p) from rfl, if_pos ⟨hp, dg⟩]
  rw [← l2] at le
  refine Or.inl ⟨(zdg tp T 4 p (nI 0)).2, [(nI 0, (zdg tp T 4 p (nI 0)).1)], ⟨by omega, le.2, by show 1 + p ≤ _; omega, zwfp_1⟩, fun h L hl s => ?_, fun g L hl s => ?_⟩
  · obtain ⟨h1, a, b, c⟩ := c87 hT ht (by omega) (by omega) s (e + 6)
    refine ⟨h1, ?_, b, c⟩
    have a' : zCf zT znl (e + 8) 87 [.ref 73] h = some (none, h1) := a
    have nx := fun d => c85_b d s.1 s.2.1 hp hT
    simp only [e90, q90_0, q90_1, q90_4, q90_5, q90_6, q90_8, q90_10, q90_13, q90_16, q90_17, q90_20, q90_168, c0, nx, wi, a', rc_R, zn1_0, if_true, if_false, ↓reduceIte, Option.bind_some, Option.toList_some, Option.toList_none, List.cons_append, List.nil_append, zB_go, zB_end, zB_no, zokv_i, zokv_r, zokv_n, eq_self]
  · obtain ⟨g1, a, b, c⟩ := c145_n hT ht (by omega) (by omega) s (e' + 7) (nI (tp p))
    refine ⟨g1, ?_, b, c⟩
    have nx := fun d => c139_b d s hp hT
    have n40 := fun d => c140 d s hu hb
    simp only [nn, Bool.false_eq_true, if_false] at n40
    simp only [e145, q145_0, q145_1, q145_4, q145_5, q145_6, q145_7, q145_10, q145_31, q145_32, q145_34, q145_36, q145_39, c107, nx, n40, wi, rc_M, zn1_0, if_true, if_false, ↓reduceIte, Option.bind_some, Option.toList_some, Option.toList_none, List.cons_append, List.nil_append, zB_go, zB_end, zB_no, zokv_i, zokv_r, zokv_n, eq_self]
    exact a
theorem zQ_name (hu : u < 2) (hT : T ≤ 60) (ht : ∀ i, i < 60 → tp i < 256) (hp : p < T) (nn : zin (nms u) (tp p) = true) : zZ tp T u (e + 9) 90 [.ref 73, .int (nI o)] (e' + 9) 145 [.ref 91] p o := by
  have hb := ht p (by omega)
  have dg := zin_nd hb nn hu
  have wi := zwi_d hb
  rw [if_neg dg] at wi
  obtain ⟨px, ok⟩ := zpx hu hb nn
  refine Or.inl ⟨p + 1, [(nI 1, nI (tp p))], ⟨by omega, hp, by show 1 + p ≤ _; omega, zwfp_2 ok⟩, fun h L hl s => ?_, fun g L hl s => ?_⟩
  · have en : zenc (zixu u) (nI 1, nI (tp p)) (nI 97) (zpos (nms u) (nI (tp p))) := ⟨fun x => absurd x (show ¬ nI 1 = nI 0 by decide), fun _ => ⟨rfl, px⟩, fun x => absurd x (show ¬ nI 1 = nI 2 by decide), fun x => absurd x (show ¬ nI 1 = nI 3 by decide)⟩
    obtain ⟨h1, c, c2, c4, f⟩ := c79 (e + 7) s.2.2 (by omega) en
    have c' : zCf zT znl (e + 8) 79 [.ref 74, .int (nI 97), .int (zpos (nms u) (nI (tp p)))] h = some (none, h1) := c
    have s1 := zCs_add s c2 f
    obtain ⟨s2, f2⟩ := zCs_at (q := p + 1) s1
    refine ⟨_, ?_, s2, zCfr_trans ⟨fun a _ x y z => f a x y z, c4⟩ f2⟩
    have nx := fun d => c85_b d s.1 s.2.1 hp hT
    have hx := ztxt_n u hu
    have n86 := fun d => c86_b d hx hb nx
    simp only [nn, if_true] at n86
    have e5 : (nI (314 + 4 * u)).toNatClampNeg = 314 + 4 * u := nI_clamp (by omega)
    obtain ⟨⟨b', x1, x2⟩, x3, x4, x5⟩ := hx
    have c2 := fun d => c211 d h x1 x2 x3 x4 hb x5
    have rcs : ∀ as, (zrc 99 (.ref (314 + 4 * u) :: as) = true) = True := fun as => eq_true (by
      show ((zsh (314 + 4 * u)).1 == 5) = true
      rw [x1]; rfl)
    simp only [e90, q90_0, q90_1, q90_4, q90_5, q90_6, q90_8, q90_10, q90_13, q90_23, q90_24, q90_25, q90_28, q90_31, q90_34, q90_35, q90_38, q90_40, q90_41, q90_44, q90_45, q90_46, q90_49, q90_52, q90_53i, q90_53r, q90_54, q90_57, q90_58, q90_59, q90_62, q90_168, c0, nx, wi, gf_R0, gf_R3, gf_R5, pf_R3, s.1.2.2.2.2, s1.1.2.2.1, e5, n86, zchar hb, c2, c', rcs, nI_add, rc_R, rc_T zTx_74, zn1_0, if_true, if_false, ↓reduceIte, Option.bind_some, Option.toList_some, Option.toList_none, List.cons_append, List.nil_append, zB_go, zB_end, zB_no, zokv_i, zokv_r, zokv_n, eq_self]
  · obtain ⟨s1, f1⟩ := zMs_at (q := p + 1) s
    obtain ⟨g1, c, s2, f2⟩ := c141 (e' + 7) (w := nI 1) (v := nI (tp p)) s1 (by omega)
    refine ⟨g1, ?_, s2, zMfr_trans f1 f2⟩
    have c' : zCf zT znl (e' + 8) 141 [.ref 91, .int (nI 1), .int (nI (tp p))] (zup g 91 5 (nI (p + 1))) = some (none, g1) := c
    have nx := fun d => c139_b d s hp hT
    have n40 := fun d => c140 d s hu hb
    simp only [nn, if_true] at n40
    simp only [e145, q145_0, q145_1, q145_4, q145_5, q145_6, q145_7, q145_10, q145_13, q145_14i, q145_14r, q145_15, q145_18, q145_19, q145_20, q145_23, q145_24, q145_25, q145_26, q145_29, q145_30, nx, n40, gf_M5, pf_M5, s.1, nI_add, c', z01_1, rc_M, zn1_0, if_true, if_false, ↓reduceIte, Option.bind_some, Option.toList_some, Option.toList_none, List.cons_append, List.nil_append, zB_go, zB_end, zB_no, zokv_i, zokv_r, zokv_n, eq_self]
theorem zQ_no (hu : u < 2) (hT : T ≤ 60) (ht : ∀ i, i < 60 → tp i < 256) (ho : o ≤ 5) (hp : p < T) (dg : ¬ (48 ≤ tp p ∧ tp p ≤ 57)) (nn : zin (nms u) (tp p) = false) (n3 : ¬ (tp p = 33 ∧ o < 5)) (n4 : ¬ (tp p = 40 ∧ o < 5)) : zZ tp T u (e + 9) 90 [.ref 73, .int (nI o)] (e' + 9) 145 [.ref 91] p o := by
  have hb := ht p (by omega)
  have wi := zwi_d hb
  rw [if_neg dg] at wi
  refine Or.inr ⟨p, by omega, fun h L hl s => ⟨_, ?_, zCs_fail s⟩, fun g L hl s => ⟨g, ?_, s.1, zMfr_refl g⟩⟩
  · have nx := fun d => c85_b d s.1 s.2.1 hp hT
    have hx := ztxt_n u hu
    have n86 := fun d => c86_b d hx hb nx
    simp only [nn, Bool.false_eq_true, if_false] at n86
    have e5 : (nI (314 + 4 * u)).toNatClampNeg = 314 + 4 * u := nI_clamp (by omega)
    by_cases x3 : tp p = 33
    · have o5 : o = 5 := by omega
      subst o5
      have n1 : nI (tp p) = nI 33 := by rw [x3]
      have n2 : ¬ nI (tp p) = nI 40 := nI_ne (by omega) (by omega) (by decide)
      have n3 : nI 5 ≤ nI 5 := Int32.le_refl _
      simp only [e90, q90_0, q90_1, q90_4, q90_5, q90_6, q90_8, q90_10, q90_13, q90_23, q90_24, q90_25, q90_28, q90_31, q90_65, q90_66, q90_68, q90_71, q90_72, q90_73, q90_106, q90_107, q90_109, q90_164, q90_165, q90_168, c0, nx, wi, gf_R5, s.1.2.2.2.2, e5, n86, eq_true n1, n2, n3, c88 _ s.1, rc_R, zn1_0, if_true, if_false, ↓reduceIte, Option.bind_some, Option.toList_some, Option.toList_none, List.cons_append, List.nil_append, zB_go, zB_end, zB_no, zokv_i, zokv_r, zokv_n, eq_self]
    · have n1 : ¬ nI (tp p) = nI 33 := nI_ne x3 (by omega) (by decide)
      by_cases x4 : tp p = 40
      · have o5 : o = 5 := by omega
        subst o5
        have n2 : nI (tp p) = nI 40 := by rw [x4]
        have n3 : nI 5 ≤ nI 5 := Int32.le_refl _
        simp only [e90, q90_0, q90_1, q90_4, q90_5, q90_6, q90_8, q90_10, q90_13, q90_23, q90_24, q90_25, q90_28, q90_31, q90_65, q90_66, q90_68, q90_106, q90_107, q90_109, q90_112, q90_113, q90_114, q90_164, q90_165, q90_168, c0, nx, wi, gf_R5, s.1.2.2.2.2, e5, n86, n1, eq_true n2, n3, c88 _ s.1, rc_R, zn1_0, if_true, if_false, ↓reduceIte, Option.bind_some, Option.toList_some, Option.toList_none, List.cons_append, List.nil_append, zB_go, zB_end, zB_no, zokv_i, zokv_r, zokv_n, eq_self]
      · have n2 : ¬ nI (tp p) = nI 40 := nI_ne x4 (by omega) (by decide)
        simp only [e90, q90_0, q90_1, q90_4, q90_5, q90_6, q90_8, q90_10, q90_13, q90_23, q90_24, q90_25, q90_28, q90_31, q90_65, q90_66, q90_68, q90_106, q90_107, q90_109, q90_164, q90_165, q90_168, c0, nx, wi, gf_R5, s.1.2.2.2.2, e5, n86, n1, n2, c88 _ s.1, rc_R, zn1_0, if_true, if_false, ↓reduceIte, Option.bind_some, Option.toList_some, Option.toList_none, List.cons_append, List.nil_append, zB_go, zB_end, zB_no, zokv_i, zokv_r, zokv_n, eq_self]
  · have nx := fun d => c139_b d s hp hT
    have n40 := fun d => c140 d s hu hb
    simp only [nn, Bool.false_eq_true, if_false] at n40
    by_cases x3 : tp p = 33
    · have o5 : o = 5 := by omega
      subst o5
      have n1 : nI (tp p) = nI 33 := by rw [x3]
      simp only [e145, q145_0, q145_1, q145_4, q145_5, q145_6, q145_7, q145_10, q145_31, q145_32, q145_34, q145_36, q145_39, q145_102, q145_103, q145_105, q145_108, q145_109, q145_112, q145_122, q145_123, c107, nx, wi, n40, eq_true n1, c142_n _ s, z01_0, rc_M, zn1_0, if_true, if_false, ↓reduceIte, Option.bind_some, Option.toList_some, Option.toList_none, List.cons_append, List.nil_append, zB_go, zB_end, zB_no, zokv_i, zokv_r, zokv_n, eq_self]
    · have n1 : ¬ nI (tp p) = nI 33 := nI_ne x3 (by omega) (by decide)
      by_cases x4 : tp p = 40
      · have o5 : o = 5 := by omega
        subst o5
        have n2 : nI (tp p) = nI 40 := by rw [x4]
        simp only [e145, q145_0, q145_1, q145_4, q145_5, q145_6, q145_7, q145_10, q145_31, q145_32, q145_34, q145_36, q145_39, q145_102, q145_103, q145_105, q145_142, q145_143, q145_145, q145_148, q145_149, q145_152, q145_171, q145_172, c107, nx, wi, n40, n1, eq_true n2, c142_n _ s, z01_0, rc_M, zn1_0, if_true, if_false, ↓reduceIte, Option.bind_some, Option.toList_some, Option.toList_none, List.cons_append, List.nil_append, zB_go, zB_end, zB_no, zokv_i, zokv_r, zokv_n, eq_self]
      · have n2 : ¬ nI (tp p) = nI 40 := nI_ne x4 (by omega) (by decide)
        simp only [e145, q145_0, q145_1, q145_4, q145_5, q145_6, q145_7, q145_10, q145_31, q145_32, q145_34, q145_36, q145_39, q145_102, q145_103, q145_105, q145_142, q145_143, q145_145, q145_171, q145_172, c107, nx, wi, n40, n1, n2, z01_0, rc_M, zn1_0, if_true, if_false, ↓reduceIte, Option.bind_some, Option.toList_some, Option.toList_none, List.cons_append, List.nil_append, zB_go, zB_end, zB_no, zokv_i, zokv_r, zokv_n, eq_self]
/-- a text within brackets, or a negated one -/
theorem zQ_not (hu : u < 2) (hT : T ≤ 60) (ht : ∀ i, i < 60 → tp i < 256) (hp : p < T) (ho : o < 5) (x3 : tp p = 33) (IQ : zZ tp T u (e + 8) 90 [.ref 73, .int (nI (o + 1))] (e' + 8) 145 [.ref 91] (p + 1) (o + 1)) : zZ tp T u (e + 9) 90 [.ref 73, .int (nI o)] (e' + 9) 145 [.ref 91] p o := by
  have hb := ht p (by omega)
  have nn := zin_ns (u := u) (Or.inl x3) hu
  have wi := zwi_d hb
  rw [if_neg (by omega)] at wi
  have n1 : nI (tp p) = nI 33 := by rw [x3]
  have n3 : ¬ nI 5 ≤ nI o := nI_ge ho (by decide)
  have e5 : (nI (314 + 4 * u)).toNatClampNeg = 314 + 4 * u := nI_clamp (by omega)
  have hx := ztxt_n u hu
  rcases IQ with ⟨q, t, ⟨r1, r2, r3, r4⟩, A, B⟩ | ⟨q, r2, A, B⟩
  · refine Or.inl ⟨q, t ++ [(nI 2, nI 0)], ⟨by omega, r2, by rw [List.length_append]; show t.length + 1 + p ≤ q; omega, zwfp_3 r4⟩, fun h L hl s => ?_, fun g L hl s => ?_⟩
    · have nx := fun d => c85_b d s.1 s.2.1 hp hT
      have n86 := fun d => c86_b d hx hb nx
      simp only [nn, Bool.false_eq_true, if_false] at n86
      obtain ⟨s1, f1⟩ := zCs_at (q := p + 1) s
      obtain ⟨h2, c2, s2, f2⟩ := A _ L (by omega) s1
      have en : zenc (zixu u) (nI 2, nI 0) (nI 33) (nI 0) := ⟨fun x => absurd x (show ¬ nI 2 = nI 0 by decide), fun x => absurd x (show ¬ nI 2 = nI 1 by decide), fun _ => rfl, fun x => absurd x (show ¬ nI 2 = nI 3 by decide)⟩
      obtain ⟨h3, c3, d1, d2, d3⟩ := c79 (e + 7) s2.2.2 (by rw [List.length_append]; omega) en
      have c3' : zCf zT znl (e + 8) 79 [.ref 74, .int (nI 33), .int (nI 0)] h2 = some (none, h3) := c3
      refine ⟨h3, ?_, by rw [← List.append_assoc]; exact zCs_add s2 d1 d3, zCfr_trans f1 (zCfr_trans f2 ⟨fun a _ x y z => d3 a x y z, d2⟩)⟩
      simp only [e90, q90_0, q90_1, q90_4, q90_5, q90_6, q90_8, q90_10, q90_13, q90_23, q90_24, q90_25, q90_28, q90_31, q90_65, q90_66, q90_68, q90_71, q90_72, q90_73, q90_76, q90_77i, q90_77r, q90_78, q90_81, q90_82, q90_83, q90_86, q90_87, q90_88, q90_89, q90_90, q90_93, q90_94, q90_97, q90_99, q90_100, q90_103, q90_168, c0, nx, wi, gf_R0, gf_R3, gf_R5, pf_R3, s.1.2.2.1, s.1.2.2.2.2, e5, n86, eq_true n1, n3, nI_add, c2, c3', rc_R, rc_T zTx_74, zn1_0, if_true, if_false, ↓reduceIte, Option.bind_some, Option.toList_some, Option.toList_none, List.cons_append, List.nil_append, zB_go, zB_end, zB_no, zokv_i, zokv_r, zokv_n, eq_self]
    · have nx := fun d => c139_b d s hp hT
      have n40 := fun d => c140 d s hu hb
      simp only [nn, Bool.false_eq_true, if_false] at n40
      obtain ⟨g1, c1, s1, f1⟩ := c142 (e' + 7) s ho
      have c1' : zCf zT znl (e' + 8) 142 [.ref 91] g = some (some (.int (nI 1)), g1) := c1
      obtain ⟨g2, c2, s2, f2⟩ := B g1 L (by omega) s1
      obtain ⟨s3, f3⟩ := zMs_op (q := o) s2
      obtain ⟨g4, c4, s4, f4⟩ := c141 (e' + 7) (w := nI 2) (v := nI 0) s3 (by rw [List.length_append]; omega)
      have c4' : zCf zT znl (e' + 8) 141 [.ref 91, .int (nI 2), .int (nI 0)] (zup g2 91 6 (nI o)) = some (none, g4) := c4
      refine ⟨g4, ?_, by rw [← List.append_assoc]; exact s4, zMfr_trans f1 (zMfr_trans f2 (zMfr_trans f3 f4))⟩
      simp only [e145, q145_0, q145_1, q145_4, q145_5, q145_6, q145_7, q145_10, q145_31, q145_32, q145_34, q145_36, q145_39, q145_102, q145_103, q145_105, q145_108, q145_109, q145_112, q145_115, q145_116, q145_119, q145_124, q145_125i, q145_125r, q145_126, q145_129, q145_130, q145_131, q145_134, q145_135, q145_136, q145_137, q145_140, q145_141, c107, nx, wi, n40, eq_true n1, c1', c2, gf_M6, pf_M6, s2.2.1, nI_sub1, c4', z01_1, rc_M, zn1_0, if_true, if_false, ↓reduceIte, Option.bind_some, Option.toList_some, Option.toList_none, List.cons_append, List.nil_append, zB_go, zB_end, zB_no, zokv_i, zokv_r, zokv_n, eq_self]
  · refine Or.inr ⟨q, r2, fun h L hl s => ?_, fun g L hl s => ?_⟩
    · have nx := fun d => c85_b d s.1 s.2.1 hp hT
      have n86 := fun d => c86_b d hx hb nx
      simp only [nn, Bool.false_eq_true, if_false] at n86
      obtain ⟨s1, f1⟩ := zCs_at (q := p + 1) s
      obtain ⟨h2, c2, s2, f2⟩ := A _ L (by omega) s1
      obtain ⟨n, hn, en⟩ := s2.2.2.2.2
      obtain ⟨h3, n', c3, d0, d1, d2, d3⟩ := c79_f (e + 7) (sg := nI 33) (op := nI 0) hn en
      have c3' : zCf zT znl (e + 8) 79 [.ref 74, .int (nI 33), .int (nI 0)] h2 = some (none, h3) := c3
      refine ⟨h3, ?_, zFs_up s2 d0 d1 (d3 73 (by decide) (by decide) (by decide)), zCfr_trans f1 (zCfr_trans f2 ⟨fun a _ x y z => d3 a x y z, d2⟩)⟩
      simp only [e90, q90_0, q90_1, q90_4, q90_5, q90_6, q90_8, q90_10, q90_13, q90_23, q90_24, q90_25, q90_28, q90_31, q90_65, q90_66, q90_68, q90_71, q90_72, q90_73, q90_76, q90_77i, q90_77r, q90_78, q90_81, q90_82, q90_83, q90_86, q90_87, q90_88, q90_89, q90_90, q90_93, q90_94, q90_97, q90_99, q90_100, q90_103, q90_168, c0, nx, wi, gf_R0, gf_R3, gf_R5, pf_R3, s.1.2.2.1, s.1.2.2.2.2, e5, n86, eq_true n1, n3, nI_add, c2, c3', rc_R, rc_T zTx_74, zn1_0, if_true, if_false, ↓reduceIte, Option.bind_some, Option.toList_some, Option.toList_none, List.cons_append, List.nil_append, zB_go, zB_end, zB_no, zokv_i, zokv_r, zokv_n, eq_self]
    · have nx := fun d => c139_b d s hp hT
      have n40 := fun d => c140 d s hu hb
      simp only [nn, Bool.false_eq_true, if_false] at n40
      obtain ⟨g1, c1, s1, f1⟩ := c142 (e' + 7) s ho
      have c1' : zCf zT znl (e' + 8) 142 [.ref 91] g = some (some (.int (nI 1)), g1) := c1
      obtain ⟨g2, c2, s2, f2⟩ := B g1 L (by omega) s1
      refine ⟨g2, ?_, s2, zMfr_trans f1 f2⟩
      simp only [e145, q145_0, q145_1, q145_4, q145_5, q145_6, q145_7, q145_10, q145_31, q145_32, q145_34, q145_36, q145_39, q145_102, q145_103, q145_105, q145_108, q145_109, q145_112, q145_115, q145_116, q145_119, q145_122, q145_123, c107, nx, wi, n40, eq_true n1, c1', c2, z01_0, rc_M, zn1_0, if_true, if_false, ↓reduceIte, Option.bind_some, Option.toList_some, Option.toList_none, List.cons_append, List.nil_append, zB_go, zB_end, zB_no, zokv_i, zokv_r, zokv_n, eq_self]
theorem zQ_par (hu : u < 2) (hT : T ≤ 60) (ht : ∀ i, i < 60 → tp i < 256) (hp : p < T) (ho : o < 5) (x4 : tp p = 40) (IJ : zZ tp T u (e + 8) 89 [.ref 73, .int (nI 0), .int (nI (o + 1))] (e' + 8) 148 [.ref 91] (p + 1) (o + 1)) : zZ tp T u (e + 9) 90 [.ref 73, .int (nI o)] (e' + 9) 145 [.ref 91] p o := by
  have hb := ht p (by omega)
  have nn := zin_ns (u := u) (Or.inr x4) hu
  have wi := zwi_d hb
  rw [if_neg (by omega)] at wi
  have n1 : ¬ nI (tp p) = nI 33 := nI_ne (by omega) (by omega) (by decide)
  have n2 : nI (tp p) = nI 40 := by rw [x4]
  have n3 : ¬ nI 5 ≤ nI o := nI_ge ho (by decide)
  have e5 : (nI (314 + 4 * u)).toNatClampNeg = 314 + 4 * u := nI_clamp (by omega)
  have hx := ztxt_n u hu
  rcases IJ with ⟨q, t, ⟨r1, r2, r3, r4⟩, A, B⟩ | ⟨q, r2, A, B⟩
  · by_cases cl : q < T ∧ tp q = 41
    · refine Or.inl ⟨q + 1, t, ⟨by omega, cl.1, by omega, r4⟩, fun h L hl s => ?_, fun g L hl s => ?_⟩
      · have nx := fun d => c85_b d s.1 s.2.1 hp hT
        have n86 := fun d => c86_b d hx hb nx
        simp only [nn, Bool.false_eq_true, if_false] at n86
        obtain ⟨s1, f1⟩ := zCs_at (q := p + 1) s
        obtain ⟨h2, c2, s2, f2⟩ := A _ L (by omega) s1
        obtain ⟨s3, f3⟩ := zCs_at (q := q + 1) s2
        have nx2 := fun d => c85_b d s2.1 s2.2.1 cl.1 hT
        have n862 := fun d => c86_b d ztxt_p (ht q (by omega)) nx2
        have z : zin [41] (tp q) = true := by rw [zin_p _ (ht q (by omega))]; exact decide_eq_true cl.2
        simp only [z, if_true] at n862
        refine ⟨_, ?_, s3, zCfr_trans f1 (zCfr_trans f2 f3)⟩
        simp only [e90, q90_0, q90_1, q90_4, q90_5, q90_6, q90_8, q90_10, q90_13, q90_23, q90_24, q90_25, q90_28, q90_31, q90_65, q90_66, q90_68, q90_106, q90_107, q90_109, q90_112, q90_113, q90_114, q90_117, q90_118i, q90_118r, q90_119, q90_122, q90_123, q90_124, q90_127, q90_128, q90_129, q90_130, q90_131, q90_132, q90_135, q90_136, q90_138, q90_141, q90_144, q90_145i, q90_145r, q90_146, q90_149, q90_150, q90_151, q90_154, q90_168, c0, nx, wi, gf_R3, gf_R5, pf_R3, s.1.2.2.1, s.1.2.2.2.2, s2.1.2.2.1, e5, n86, n1, eq_true n2, n3, nI_add, c2, n862, rc_R, zn1_0, if_true, if_false, ↓reduceIte, Option.bind_some, Option.toList_some, Option.toList_none, List.cons_append, List.nil_append, zB_go, zB_end, zB_no, zokv_i, zokv_r, zokv_n, eq_self]
      · have nx := fun d => c139_b d s hp hT
        have n40 := fun d => c140 d s hu hb
        simp only [nn, Bool.false_eq_true, if_false] at n40
        obtain ⟨g1, c1, s1, f1⟩ := c142 (e' + 7) s ho
        have c1' : zCf zT znl (e' + 8) 142 [.ref 91] g = some (some (.int (nI 1)), g1) := c1
        obtain ⟨g2, c2, s2, f2⟩ := B g1 L (by omega) s1
        have nx2 := fun d => c139_b d s2 cl.1 hT
        obtain ⟨s3, f3⟩ := zMs_at (q := q + 1) s2
        obtain ⟨s4, f4⟩ := zMs_op (q := o) s3
        have n4 : nI (tp q) = nI 41 := by rw [cl.2]
        refine ⟨_, ?_, s4, zMfr_trans f1 (zMfr_trans f2 (zMfr_trans f3 f4))⟩
        have o6 : ∀ v, zup g2 91 5 v 91 6 = g2 91 6 := fun v => zup_o (by decide)
        simp only [e145, q145_0, q145_1, q145_4, q145_5, q145_6, q145_7, q145_10, q145_31, q145_32, q145_34, q145_36, q145_39, q145_102, q145_103, q145_105, q145_142, q145_143, q145_145, q145_148, q145_149, q145_152, q145_155, q145_156, q145_159, q145_162, q145_163, q145_166, q145_168, q145_173, q145_174i, q145_174r, q145_175, q145_178, q145_179, q145_180, q145_183, q145_184i, q145_184r, q145_185, q145_188, q145_189, q145_190, q145_193, q145_194, c107, nx, wi, n40, n1, eq_true n2, c1', c2, nx2, eq_true n4, gf_M5, gf_M6, pf_M5, pf_M6, s2.1, s2.2.1, o6, nI_sub1, nI_add, z01_1, rc_M, zn1_0, if_true, if_false, ↓reduceIte, Option.bind_some, Option.toList_some, Option.toList_none, List.cons_append, List.nil_append, zB_go, zB_end, zB_no, zokv_i, zokv_r, zokv_n, eq_self]
    · refine Or.inr ⟨q, r2, fun h L hl s => ?_, fun g L hl s => ?_⟩
      · have nx := fun d => c85_b d s.1 s.2.1 hp hT
        have n86 := fun d => c86_b d hx hb nx
        simp only [nn, Bool.false_eq_true, if_false] at n86
        obtain ⟨s1, f1⟩ := zCs_at (q := p + 1) s
        obtain ⟨h2, c2, s2, f2⟩ := A _ L (by omega) s1
        obtain ⟨s3, f3⟩ := zCs_fail s2
        have n862 : ∀ d, zCf zT znl (d + 8) 86 [.ref 73, .ref 320] h2 = some (some (.int (nI 0)), h2) := by
          intro d
          by_cases q1 : q < T
          · have nx2 := fun d => c85_b d s2.1 s2.2.1 q1 hT
            have z : zin [41] (tp q) = false := by rw [zin_p _ (ht q (by omega))]; exact decide_eq_false (fun w => cl ⟨q1, w⟩)
            have n := c86_b d ztxt_p (ht q (by omega)) nx2
            rw [z] at n
            exact n
          · exact c86_n d (fun d => c85_e d s2.1 (by omega) (by omega))
        have n88 := fun d => c88 d s2.1
        refine ⟨_, ?_, s3, zCfr_trans f1 (zCfr_trans f2 f3)⟩
        simp only [e90, q90_0, q90_1, q90_4, q90_5, q90_6, q90_8, q90_10, q90_13, q90_23, q90_24, q90_25, q90_28, q90_31, q90_65, q90_66, q90_68, q90_106, q90_107, q90_109, q90_112, q90_113, q90_114, q90_117, q90_118i, q90_118r, q90_119, q90_122, q90_123, q90_124, q90_127, q90_128, q90_129, q90_130, q90_131, q90_132, q90_135, q90_136, q90_138, q90_141, q90_157, q90_158, q90_161, q90_168, c0, nx, wi, gf_R3, gf_R5, pf_R3, s.1.2.2.1, s.1.2.2.2.2, e5, n86, n1, eq_true n2, n3, nI_add, c2, n862, n88, rc_R, zn1_0, if_true, if_false, ↓reduceIte, Option.bind_some, Option.toList_some, Option.toList_none, List.cons_append, List.nil_append, zB_go, zB_end, zB_no, zokv_i, zokv_r, zokv_n, eq_self]
      · have nx := fun d => c139_b d s hp hT
        have n40 := fun d => c140 d s hu hb
        simp only [nn, Bool.false_eq_true, if_false] at n40
        obtain ⟨g1, c1, s1, f1⟩ := c142 (e' + 7) s ho
        have c1' : zCf zT znl (e' + 8) 142 [.ref 91] g = some (some (.int (nI 1)), g1) := c1
        obtain ⟨g2, c2, s2, f2⟩ := B g1 L (by omega) s1
        refine ⟨g2, ?_, s2.1, zMfr_trans f1 f2⟩
        by_cases q1 : q < T
        · have nx2 := fun d => c139_b d s2 q1 hT
          have n4 : ¬ nI (tp q) = nI 41 := nI_ne (fun w => cl ⟨q1, w⟩) (by have := ht q (by omega); omega) (by decide)
          simp only [e145, q145_0, q145_1, q145_4, q145_5, q145_6, q145_7, q145_10, q145_31, q145_32, q145_34, q145_36, q145_39, q145_102, q145_103, q145_105, q145_142, q145_143, q145_145, q145_148, q145_149, q145_152, q145_155, q145_156, q145_159, q145_162, q145_163, q145_166, q145_168, q145_171, q145_172, c107, nx, wi, n40, n1, eq_true n2, c1', c2, nx2, n4, z01_0, rc_M, zn1_0, if_true, if_false, ↓reduceIte, Option.bind_some, Option.toList_some, Option.toList_none, List.cons_append, List.nil_append, zB_go, zB_end, zB_no, zokv_i, zokv_r, zokv_n, eq_self]
        · have nx2 := fun d => c139_e d s2 (show T ≤ q by omega) (by omega)
          have n4 : ¬ (-1 : Int32) = nI 41 := by decide
          simp only [e145, q145_0, q145_1, q145_4, q145_5, q145_6, q145_7, q145_10, q145_31, q145_32, q145_34, q145_36, q145_39, q145_102, q145_103, q145_105, q145_142, q145_143, q145_145, q145_148, q145_149, q145_152, q145_155, q145_156, q145_159, q145_162, q145_163, q145_166, q145_168, q145_171, q145_172, c107, nx, wi, n40, n1, eq_true n2, c1', c2, nx2, n4, z01_0, rc_M, zn1_0, if_true, if_false, ↓reduceIte, Option.bind_some, Option.toList_some, Option.toList_none, List.cons_append, List.nil_append, zB_go, zB_end, zB_no, zokv_i, zokv_r, zokv_n, eq_self]
  · refine Or.inr ⟨q, r2, fun h L hl s => ?_, fun g L hl s => ?_⟩
    · have nx := fun d => c85_b d s.1 s.2.1 hp hT
      have n86 := fun d => c86_b d hx hb nx
      simp only [nn, Bool.false_eq_true, if_false] at n86
      obtain ⟨s1, f1⟩ := zCs_at (q := p + 1) s
      obtain ⟨h2, c2, s2, f2⟩ := A _ L (by omega) s1
      have nx2 := fun d => c85_f (h := h2) d (q := q) (by omega) s2.2.2.1
      have n862 := fun d (r : Nat) => c86_n d (s := r) nx2
      have n88 := fun d => c88_f (h := h2) d (q := q) (by omega) s2.2.2.1
      refine ⟨h2, ?_, s2, zCfr_trans f1 f2⟩
      simp only [e90, q90_0, q90_1, q90_4, q90_5, q90_6, q90_8, q90_10, q90_13, q90_23, q90_24, q90_25, q90_28, q90_31, q90_65, q90_66, q90_68, q90_106, q90_107, q90_109, q90_112, q90_113, q90_114, q90_117, q90_118i, q90_118r, q90_119, q90_122, q90_123, q90_124, q90_127, q90_128, q90_129, q90_130, q90_131, q90_132, q90_135, q90_136, q90_138, q90_141, q90_157, q90_158, q90_161, q90_168, c0, nx, wi, gf_R3, gf_R5, pf_R3, s.1.2.2.1, s.1.2.2.2.2, e5, n86, n1, eq_true n2, n3, nI_add, c2, n862, n88, rc_R, zn1_0, if_true, if_false, ↓reduceIte, Option.bind_some, Option.toList_some, Option.toList_none, List.cons_append, List.nil_append, zB_go, zB_end, zB_no, zokv_i, zokv_r, zokv_n, eq_self]
    · have nx := fun d => c139_b d s hp hT
      have n40 := fun d => c140 d s hu hb
      simp only [nn, Bool.false_eq_true, if_false] at n40
      obtain ⟨g1, c1, s1, f1⟩ := c142 (e' + 7) s ho
      have c1' : zCf zT znl (e' + 8) 142 [.ref 91] g = some (some (.int (nI 1)), g1) := c1
      obtain ⟨g2, c2, s2, f2⟩ := B g1 L (by omega) s1
      refine ⟨g2, ?_, s2, zMfr_trans f1 f2⟩
      simp only [e145, q145_0, q145_1, q145_4, q145_5, q145_6, q145_7, q145_10, q145_31, q145_32, q145_34, q145_36, q145_39, q145_102, q145_103, q145_105, q145_142, q145_143, q145_145, q145_148, q145_149, q145_152, q145_155, q145_156, q145_159, q145_171, q145_172, c107, nx, wi, n40, n1, eq_true n2, c1', c2, z01_0, rc_M, zn1_0, if_true, if_false, ↓reduceIte, Option.bind_some, Option.toList_some, Option.toList_none, List.cons_append, List.nil_append, zB_go, zB_end, zB_no, zokv_i, zokv_r, zokv_n, eq_self]
/-- Q -/
theorem zQ (hu : u < 2) (hT : T ≤ 60) (ht : ∀ i, i < 60 → tp i < 256) (ho : o ≤ 5) (hp : p ≤ T) (IQ : o < 5 → p < T → zZ tp T u (e + 8) 90 [.ref 73, .int (nI (o + 1))] (e' + 8) 145 [.ref 91] (p + 1) (o + 1)) (IJ : o < 5 → p < T → zZ tp T u (e + 8) 89 [.ref 73, .int (nI 0), .int (nI (o + 1))] (e' + 8) 148 [.ref 91] (p + 1) (o + 1)) : zZ tp T u (e + 9) 90 [.ref 73, .int (nI o)] (e' + 9) 145 [.ref 91] p o := by
  by_cases q : p < T
  · by_cases dg : 48 ≤ tp p ∧ tp p ≤ 57
    · exact zQ_num e e' hu hT ht q dg
    · cases nn : zin (nms u) (tp p) with
      | true => exact zQ_name e e' hu hT ht q nn
      | false =>
        by_cases n3 : tp p = 33 ∧ o < 5
        · exact zQ_not e e' hu hT ht q n3.2 n3.1 (IQ n3.2 q)
        · by_cases n4 : tp p = 40 ∧ o < 5
          · exact zQ_par e e' hu hT ht q n4.2 n4.1 (IJ n4.2 q)
          · exact zQ_no e e' hu hT ht ho q dg nn n3 n4
  · exact zQ_end e e' hu hT (by omega)
end O94
