/-! ===== texts worked out: the loops ===== -/
theorem zup_row_at {h : zH} {a j : Nat} {x : Int32} {b : Nat} (e : b ≠ a) : zup h a j x b = h b := zup_row_ne e
theorem zpl_push {f g : Nat → Int32} {st : List Int32} {x : Int32} (h : zpl f st) (e : g st.length = x) (k : ∀ j, j < st.length → g j = f j) : zpl g (x :: st) := ⟨e, zpl_up h k⟩
section WL
variable (d : Nat)
theorem w123 {ok : Int32 → Prop} (hok : ∀ v, ok v → ∃ c, c < 128 ∧ v = nI c) {f : Nat} {u : Int32} : ∀ (r : List (Int32 × Int32)) (st : List Int32) (i : Nat) (h : zH) (w5 w6 : Value), h 92 f = nI (i + r.length) → f + 2 * (i + r.length) < 488 → i + r.length ≤ 60 → st.length ≤ i → zwf ok r st.length → (∀ j q, r[j]? = some q → h 92 (f + 1 + 2 * (i + j)) = q.1 ∧ h 92 (f + 2 + 2 * (i + j)) = q.2) → zpl (h 98) st →
    ∃ h', zXf zT znl (d + 1) 123 14 [.ref 91, .int u, .int (nI f), .int (nI st.length), .int (nI i), w5, w6] [] h = some (some (.int ((zrun (fun v => h 97 v.toNatClampNeg) r st).headD (nI 0))), h') ∧ ∀ a, a ≠ 98 → h' a = h a := by
  intro r
  induction r with
  | nil =>
    intro st i h w5 w6 hl hf hi hs hw hq hp
    obtain ⟨x, rfl⟩ : ∃ x, st = [x] := by
      match st, hw with
      | [x], _ => exact ⟨x, rfl⟩
    have hx : h 98 0 = x := hp.1
    have a : nI i ≤ nI i := Int32.le_refl _
    refine ⟨h, ?_, fun _ _ => rfl⟩
    rw [q123_14]
    simp only [List.length_nil, Nat.add_zero] at hl hf
    simp only [q123_16, q123_17, q123_20, q123_21, q123_22, q123_164, q123_165, q123_168, q123_169, q123_170, gf_M0, gf_M11, ald_n92 (show f < 488 by omega), ald_n98 (show 0 < 64 by decide), hl, hx, a, if_true, zrun, List.headD_cons, Option.bind_some, Option.toList_some, Option.toList_none, List.cons_append, List.nil_append, zB_go, zB_end, zB_no, zokv_i, zokv_r, zokv_n, eq_self]
  | cons q r ih =>
    intro st i h w5 w6 hl hf hi hs hw hq hp
    have q0 := hq 0 q rfl
    simp only [Nat.add_zero] at q0
    have hlen : i + (q :: r).length = i + 1 + r.length := by simp only [List.length_cons]; omega
    rw [hlen] at hl hf hi
    have next : ∀ (st' : List Int32) (y : Int32) (h1 : zH) (w5 w6 : Value), (∀ b, b ≠ 98 → h1 b = h b) → st'.length ≤ i + 1 → zwf ok r st'.length → zpl (h1 98) st' → zst1 (fun v => h 97 v.toNatClampNeg) q st = st' →
        ∃ h', zXf zT znl (d + 1) 123 14 [.ref 91, .int u, .int (nI f), .int (nI st'.length), .int (nI (i + 1)), w5, w6] [] h1 = some (some (.int ((zrun (fun v => h 97 v.toNatClampNeg) (q :: r) st).headD (nI 0))), h') ∧ ∀ a, a ≠ 98 → h' a = h a := by
      intro st' y h1 w5 w6 he hs' hw' hp' hst
      obtain ⟨h', e1, e2⟩ := ih st' (i + 1) h1 w5 w6 (by rw [he 92 (by decide)]; exact hl) hf hi hs' hw' (fun j q' hj => by
        rw [he 92 (by decide)]
        have := hq (j + 1) q' (by simpa using hj)
        rw [show i + 1 + j = i + (j + 1) by omega]
        exact this) hp'
      refine ⟨h', ?_, fun a ha => (e2 a ha).trans (he a ha)⟩
      rw [e1]
      have e97 : h1 97 = h 97 := he 97 (by decide)
      show some (some (Value.int ((zrun (fun v => h1 97 v.toNatClampNeg) r st').headD (nI 0))), h') = some (some (Value.int ((zrun (fun v => h 97 v.toNatClampNeg) r (zst1 (fun v => h 97 v.toNatClampNeg) q st)).headD (nI 0))), h')
      rw [e97, hst]
    rcases hw with ⟨z, hw⟩ | ⟨z, hv, hw⟩ | ⟨z, hk, hw⟩ | ⟨z, hv, hk, hw⟩
    · rw [w123_0 d h (len := i + 1 + r.length) hl (by omega) hf (q0.1.trans z) q0.2 (by omega)]
      exact next (q.2 :: st) (nI 0) _ _ _ (fun b hb => zup_row_ne hb) (by simp only [List.length_cons]; omega) hw (zpl_push hp zup_at (fun j hj => zup_o (by omega))) (by unfold zst1; rw [if_pos z])
    · obtain ⟨c, hc, hcv⟩ := hok _ hv
      rw [w123_1 d h (len := i + 1 + r.length) hl (by omega) hf (q0.1.trans z) (q0.2.trans hcv) hc (by omega)]
      refine next (h 97 c :: st) (nI 0) _ _ _ (fun b hb => zup_row_ne hb) (by simp only [List.length_cons]; omega) hw (zpl_push hp zup_at (fun j hj => zup_o (by omega))) ?_
      unfold zst1
      rw [if_neg (by rw [z]; decide), if_pos z, hcv]
      dsimp only
      rw [nI_clamp (by omega)]
    · match st, hk, hp, hs, hw, next with
      | x :: st, hk, hp, hs, hw, next =>
        have hx : h 98 st.length = x := hp.1
        simp only [List.length_cons] at hs
        rw [List.length_cons, w123_2 d h (len := i + 1 + r.length) hl (by omega) hf (q0.1.trans z) q0.2 (by omega), hx]
        refine next ((if x = nI 0 then nI 1 else nI 0) :: st) (nI 0) _ _ _ (fun b hb => zup_row_ne hb) (by simp only [List.length_cons]; omega) hw (zpl_push hp.2 zup_at (fun j hj => zup_o (by omega))) ?_
        unfold zst1
        rw [if_neg (by rw [z]; decide), if_neg (by rw [z]; decide), if_pos z]
    · match st, hk, hp, hs, hw, next with
      | y :: x :: st, hk, hp, hs, hw, next =>
        have hx : h 98 st.length = x := hp.2.1
        have hy : h 98 (st.length + 1) = y := hp.1
        simp only [List.length_cons] at hs
        rw [List.length_cons, List.length_cons, w123_3 d h (len := i + 1 + r.length) hl (by omega) hf (q0.1.trans z) q0.2 hv (by omega), hx, hy]
        refine next (zjoin q.2 x y :: st) (nI 0) _ _ _ (fun b hb => zup_row_ne hb) (by simp only [List.length_cons]; omega) hw (zpl_push hp.2.2 zup_at (fun j hj => zup_o (by omega))) ?_
        unfold zst1
        rw [if_neg (by rw [z]; decide), if_neg (by rw [z]; decide), if_neg (by rw [z]; decide)]
/-- a text stands in the reference's row s at f -/
def zrt2 (s : Nat → Int32) (f : Nat) (T : List (Int32 × Int32)) : Prop := s f = nI T.length ∧ T.length ≤ 60 ∧ ∀ j q, T[j]? = some q → s (f + 1 + 2 * j) = q.1 ∧ s (f + 2 + 2 * j) = q.2
theorem c123 {ok : Int32 → Prop} (hok : ∀ v, ok v → ∃ c, c < 128 ∧ v = nI c) {u : Nat} (hu : u < 2) (h : zH) {T : List (Int32 × Int32)} (hT : zrt2 (h 92) (154 + 125 * u) T) (hw : zwf ok T 0) : ∃ h', zCf zT znl (d + 2) 123 [.ref 91, .int (nI u)] h = some (some (.int ((zrun (fun v => h 97 v.toNatClampNeg) T []).headD (nI 0))), h') ∧ ∀ a, a ≠ 98 → h' a = h a := by
  obtain ⟨h1, h2, h3⟩ := hT
  have h9 := w123 d hok (u := nI u) T [] 0 h Value.null Value.null (by rw [Nat.zero_add]; exact h1) (by omega) (by omega) (Nat.le_refl _) hw (fun j q hj => by rw [Nat.zero_add]; exact h3 j q hj) trivial
  simp only [List.length_nil] at h9
  simp only [e123, q123_0, q123_3, q123_5, q123_6, q123_7, q123_8, q123_9, q123_10, q123_11, q123_12, pk_mul, nI_add, Option.bind_some, Option.toList_some, Option.toList_none, List.cons_append, List.nil_append, zB_go, zB_end, zB_no, zokv_i, zokv_r, zokv_n, eq_self]
  exact h9
end WL
