/-! ===== looks that leave all as it was ===== -/
def zsg (a : Nat) : Prop := (a < 49 ∨ 79 ≤ a ∧ a ≤ 80 ∨ 82 ≤ a ∧ a < 92 ∨ a = 93 ∨ a = 95 ∨ 101 ≤ a ∧ a ≤ 104) ∧ a ≠ 16 ∧ a ≠ 20 ∧ a ≠ 21 ∧ a ≠ 22
def zAl (h h' : zH) : Prop := zEq (h 92) (h' 92) ∧ ∀ a, zsg a → h' a = h a
theorem Rel_al {h h' : zH} (R : Rel h) (A : zAl h h') : Rel h' := by
  obtain ⟨⟨N, mk, z⟩, r, -⟩ := id R
  obtain ⟨e, f⟩ := A
  refine Rel_row (N := N) (mk := mk) R (zI_eq e z) (zRWI_eq e z (zRW_keep r fun a h1 h2 h3 h4 h5 h6 => f a (by unfold zsg; omega))) fun a ha => ?_
  by_cases x : a = 16 ∨ a = 20 ∨ a = 21 ∨ a = 22
  · omega
  · exact f a (by unfold zsg; omega)
theorem zEq_refl (s : Nat → Int32) : zEq s s := fun _ _ => rfl
theorem zEq_trans {a b c : Nat → Int32} (x : zEq a b) (y : zEq b c) : zEq a c := fun i hi => (y i hi).trans (x i hi)
theorem zEq_symm {a b : Nat → Int32} (x : zEq a b) : zEq b a := fun i hi => (x i hi).symm
theorem zAl_refl (h : zH) : zAl h h := ⟨zEq_refl _, fun _ _ => rfl⟩
theorem zAl_trans {a b c : zH} (x : zAl a b) (y : zAl b c) : zAl a c := ⟨zEq_trans x.1 y.1, fun i hi => (y.2 i hi).trans (x.2 i hi)⟩
theorem zAl_of {h h' : zH} (f : ∀ a, (a = 92 ∨ zsg a) → h' a = h a) : zAl h h' := ⟨fun i _ => by rw [f 92 (Or.inl rfl)], fun a ha => f a (Or.inr ha)⟩
theorem zer_c {g g' : zH} {k a : Nat} (e : g a = g' a) : zer k g a = zer k g' a := by
  by_cases x : a = 90
  · subst x
    unfold zer
    rw [zup_ud, zup_ud, e]
  · rw [zer_ne x, zer_ne x, e]
theorem zem_c {g g' : zH} {k a : Nat} (e : g a = g' a) : zem k g a = zem k g' a := by
  by_cases x : a = 95
  · subst x
    unfold zem
    rw [zup_ud, zup_ud, e]
  · rw [zem_ne x, zem_ne x, e]
theorem zAl_er {h h' : zH} {k : Nat} (A : zAl h h') : zAl (zer k h) (zer k h') := ⟨by rw [zer_ne (by decide), zer_ne (by decide)]; exact A.1, fun a ha => zer_c (A.2 a ha)⟩
theorem zAl_em {h h' : zH} {k : Nat} (A : zAl h h') : zAl (zem k h) (zem k h') := ⟨by rw [zem_ne (by decide), zem_ne (by decide)]; exact A.1, fun a ha => zem_c (A.2 a ha)⟩
theorem zOp_al {D kc km : Nat} {as : List Value} {h h1 h2 : zH} {x : Int32} (R : Rel h) (c : zCf zT znl D kc (.ref 0 :: as) h = some (some (.int x), h1)) (m : zCf zT znl D km (.ref 91 :: as) h1 = some (some (.int x), h2)) (A1 : zAl h h1) (A2 : zAl h1 h2) : zOp D kc km as h := ⟨x, h1, h2, c, m, Rel_al R (zAl_trans A1 A2)⟩
theorem zOp_ale {D kc km : Nat} (k : Nat) {as : List Value} {h h1 g : zH} (R : Rel h) (c : zCf zT znl D kc (.ref 0 :: as) h = some (some (.int (zev k)), zer k h1)) (m : zCf zT znl D km (.ref 91 :: as) (zer k h1) = some (some (.int (zev k)), zem k g)) (A1 : zAl h h1) (A2 : zAl (zer k h1) g) : zOp D kc km as h := ⟨_, _, _, c, m, Rel_al (Rel_er R) (zAl_em (zAl_trans (zAl_er A1) A2))⟩
theorem zAl_49 {h h' : zH} (f : ∀ x, ¬ (49 ≤ x ∧ x < 73) → h' x = h x) : zAl h h' := zAl_of fun a ha => f a (by unfold zsg at ha; omega)
/-! ===== weeks: the cells behind the places stand ===== -/
theorem zit_hi {f : (Nat → Int32) → Nat → Nat → Int32} {i : Nat} (hf : ∀ s j, j < 8 → f s j i = s i) : ∀ (n j : Nat) (s : Nat → Int32), j + n ≤ 8 → zit f s j n i = s i
  | 0, _, _, _ => rfl
  | n + 1, j, s, h => (zit_hi hf n (j + 1) (f s j) (by omega)).trans (hf s j (by omega))
theorem zends_hi {s : Nat → Int32} {N mk i : Nat} (z : zJ s N mk) (hi : 154 ≤ i) : zends s i = s i := by
  have h8 := z.2.1
  unfold zends
  rw [zud_ne (by omega), zn_of z.1 (by omega)]
  exact zit_hi (fun s j hj => by unfold zen1; rw [zud_ne (by omega), zud_ne (by omega)]) N 0 s (by omega)
theorem zweek_hi {s : Nat → Int32} {N mk i : Nat} (z : zJ s N mk) (hi : 154 ≤ i) : zweek s i = s i := by
  have h8 := z.2.1
  obtain ⟨m, zm, -⟩ := zmid z
  unfold zweek
  rw [zn_of z.1 (by omega), zends_hi zm hi, zit_hi (fun s j hj => ?_) N 0 _ (by omega), zud_ne (by omega)]
  unfold zps1
  split
  · rfl
  · rw [zud_ne (by omega), zud_ne (by omega)]
theorem zwks_hi : ∀ (n : Nat) {s : Nat → Int32} {N mk i : Nat}, zJ s N mk → 154 ≤ i → zwks n s i = s i
  | 0, _, _, _, _, _, _ => rfl
  | n + 1, _, _, _, _, z, h => by
    obtain ⟨m, z2⟩ := zJ_week z
    exact (zwks_hi n z2 h).trans (zweek_hi z h)
theorem zcw_hi {s : Nat → Int32} {N mk i : Nat} (h0 : 0 < N) (z : zJ s N mk) (hi : 154 ≤ i) : zcw s i = s i := by
  obtain ⟨m, z1, -⟩ := zJ_cw h0 z
  unfold zcw
  rw [zends_hi z1 hi, zud_ne (by omega)]
  unfold zc5
  rw [zud_ne (by omega)]
theorem zI_mv {s s' : Nat → Int32} {N mk m : Nat} (z : zI s N mk) (z' : zJ s' N m) (e : ∀ i, i = 3 ∨ i = 4 ∨ i = 7 ∨ 404 ≤ i → s' i = s i) : zI s' N m := by
  obtain ⟨-, a, b, c, f⟩ := z
  refine ⟨z', ?_, ?_, ?_, fun i hi => ?_⟩
  · rw [e _ (by decide)]; exact a
  · rw [e _ (by decide)]; exact b
  · rw [e _ (by decide)]; exact c
  · rw [e _ (by omega)]; exact f i hi
theorem zI_wks {s : Nat → Int32} {N mk : Nat} (n : Nat) (z : zI s N mk) : ∃ m, zI (zwks n s) N m := by
  obtain ⟨m, z'⟩ := zwks_J n z.1
  refine ⟨m, zI_mv z z' fun i hi => ?_⟩
  by_cases y : 404 ≤ i
  · exact zwks_hi n z.1 (by omega)
  · exact zwks_lo n z.1 (by omega) (by omega) (by omega)
theorem zI_cw {s : Nat → Int32} {N mk : Nat} (h0 : 0 < N) (z : zI s N mk) : ∃ m, zI (zcw s) N m := by
  obtain ⟨m, -, z'⟩ := zJ_cw h0 z.1
  refine ⟨m, zI_mv z z' fun i hi => ?_⟩
  by_cases y : 404 ≤ i
  · exact zcw_hi h0 z.1 (by omega)
  · exact zcw_lo (by omega) (by omega) (by omega) (by omega)
