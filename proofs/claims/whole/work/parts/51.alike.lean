/-! ===== two rows alike below 488 ===== -/
def zEq (s s' : Nat → Int32) : Prop := ∀ i, i < 488 → s' i = s i
theorem ztx_eq {s s' : Nat → Int32} {u n : Nat} (e : zEq s s') (hu : u < 2) (hs : s (154 + 125 * u) = nI n) (hn : n ≤ 60) : ztx s' u = ztx s u := by
  unfold ztx
  rw [e _ (by omega), hs, nI_clamp (by omega)]
  apply List.map_congr_left
  intro a ha
  have := List.mem_range.mp ha
  rw [e _ (by omega), e _ (by omega)]
theorem zTI_eq {ok : Int32 → Prop} {s s' : Nat → Int32} {u : Nat} (e : zEq s s') (hu : u < 2) (t : zTI ok s u) : zTI ok s' u := by
  obtain ⟨n, h1, h2, h3⟩ := t
  exact ⟨n, h1, by rw [e _ (by omega)]; exact h2, by rw [ztx_eq e hu h2 h1]; exact h3⟩
theorem zP_eq {s s' : Nat → Int32} {k : Nat} (e : zEq s s') (hk : k < 8) (p : zP s k) : zP s' k := by
  unfold zP at p ⊢
  rw [e _ (by omega), e _ (by omega), e _ (by omega), e _ (by omega), e _ (by omega), e _ (by omega), e _ (by omega)]
  exact p
theorem zJ_eq {s s' : Nat → Int32} {N mk : Nat} (e : zEq s s') (z : zJ s N mk) : zJ s' N mk := by
  obtain ⟨a, b, c, f, g, t0, t1⟩ := z
  exact ⟨by rw [e _ (by decide)]; exact a, b, by rw [e _ (by decide)]; exact c, f, fun k hk => zP_eq e hk (g k hk), zTI_eq e (by decide) t0, zTI_eq e (by decide) t1⟩
theorem zRW_eq {w : Nat} {s s' : Nat → Int32} {h : zH} (e : zEq s s') (t0 : zTI zok0 s 0) (t1 : zTI zok1 s 1) (r : zRW w s h) : zRW w s' h := by
  obtain ⟨a1, a2, a3, ⟨b1, b2, b3, b4, b5, b6⟩, a5, a6, a7, a8⟩ := r
  obtain ⟨n0, n01, n02, -⟩ := t0
  obtain ⟨n1, n11, n12, -⟩ := t1
  refine ⟨fun c hc => ?_, fun i hi => ?_, fun k hk j hj => ?_, ⟨?_, ?_, ?_, ?_, ?_, ?_⟩, fun i hi => ?_, fun i hi => ?_, ?_, ?_⟩
  · rw [e _ (by omega)]; exact a1 c hc
  · rw [e _ (by omega)]; exact a2 i hi
  · rw [e _ (by omega)]; exact a3 k hk j hj
  · rw [e _ (by decide)]; exact b1
  · rw [e _ (by decide)]; exact b2
  · rw [e _ (by decide)]; exact b3
  · rw [e _ (by decide)]; exact b4
  · rw [e _ (by decide)]; exact b5
  · rw [e _ (by decide)]; exact b6
  · rw [e _ (by omega)]; exact a5 i hi
  · rw [e _ (by omega)]; exact a6 i hi
  · rw [ztx_eq e (by decide) n02 n01]; exact a7
  · rw [ztx_eq e (by decide) n12 n11]; exact a8
