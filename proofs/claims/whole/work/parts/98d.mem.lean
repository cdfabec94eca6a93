/-! ===== the memory at the start ===== -/
def xh0 (L : Nat) (xs : Nat → Int32) (k : Nat) : Nat → Int32 :=
  if k = 1 then (fun i => if i = 9 then nI 44 else if i = 11 then nI 1 else nI 0) else if k = 3 then (upd ((upd ((upd (fun _ => nI 0) (nI 0).toNatClampNeg (nI 0))) (nI 1).toNatClampNeg (nI 3))) (nI 2).toNatClampNeg (nI 0)) else if k = 25 then (fun i => if i = 9 then nI 44 else if i = 11 then nI 1 else nI 0) else if k = 27 then (upd ((upd ((upd (fun _ => nI 0) (nI 0).toNatClampNeg (nI 0))) (nI 1).toNatClampNeg (nI 3))) (nI 2).toNatClampNeg (nI 0)) else if k = 49 then (fun i => if i = 9 then nI 44 else if i = 11 then nI 1 else nI 0) else if k = 51 then (upd ((upd ((upd (fun _ => nI 0) (nI 0).toNatClampNeg (nI 0))) (nI 1).toNatClampNeg (nI 3))) (nI 2).toNatClampNeg (nI 0)) else if k = 73 then (fun i => if i = 1 then nI 78 else if i = 4 then -1 else if i = 5 then nI 316 else nI 0) else if k = 92 then (upd ((upd ((upd (fun _ => nI 0) (nI 1).toNatClampNeg (nI 44))) (nI 5).toNatClampNeg (nI 1))) (nI 7).toNatClampNeg (nI 3)) else if k = 313 then xs else if k = 400 then (fun _ => Int32.ofNat L) else fun _ => nI 0
def xQ (G : zG) (a : Nat) (cs : List va_E) (H : Heap) : Prop := ∀ (i : Nat) (x : va_E), cs[i]? = some x → va_at (zD G) vwCl (a + i, x) H
theorem xQ.app {G : zG} {a n a2 : Nat} {l1 l2 : List va_E} {H : Heap} (h : xQ G a (l1 ++ l2) H) (hn : l1.length = n) (ha : a + n = a2) : xQ G a l1 H ∧ xQ G a2 l2 H := by
  subst hn ha
  refine ⟨fun i x hx => h i x (by rw [List.getElem?_append_left (List.getElem?_eq_some_iff.mp hx).1]; exact hx), fun i x hx => ?_⟩
  have := h (l1.length + i) x (by rw [List.getElem?_append_right (Nat.le_add_right _ _), Nat.add_sub_cancel_left]; exact hx)
  rw [← Nat.add_assoc] at this
  exact this
theorem xQ.tl {G : zG} {a a2 : Nat} {x : va_E} {l : List va_E} {H : Heap} (h : xQ G a (x :: l) H) (ha : a + 1 = a2) : va_at (zD G) vwCl (a, x) H ∧ xQ G a2 l H := by
  subst ha
  refine ⟨h 0 x rfl, fun i y hy => ?_⟩
  have := h (i + 1) y hy
  rw [show a + 1 + i = a + (i + 1) by omega]
  exact this
theorem xrows {G : zG} {sl : List (Nat × Nat)} {N t0 a : Nat} (h1 : sl.length = N) (h2 : ∀ j, j < N → sl[j]? = some (1, t0 + j)) (h3 : ∀ j, j < N → zad G (t0 + j) = a + 1 + j) : (fun j => (sl[j]?).map fun q => zad G q.2) = xrow a N := by
  funext j
  unfold xrow
  by_cases h : j < N
  · rw [if_pos h, h2 j h]
    show some (zad G (t0 + j)) = _
    rw [h3 j h]
  · rw [if_neg h, List.getElem?_eq_none (by omega)]
    rfl
def zfl (G : zG) (f : Nat → Int32) : Nat → List (Nat × Nat) → List Value
  | _, [] => []
  | j, q :: l => zval G f j q :: zfl G f (j + 1) l
theorem zfl_ix (G : zG) (f : Nat → Int32) : ∀ (sl : List (Nat × Nat)) (n : Nat), sl.mapIdx (fun j q => zval G f (j + n) q) = zfl G f n sl
  | [], n => rfl
  | q :: l, n => by
    rw [List.mapIdx_cons]
    show zval G f (0 + n) q :: l.mapIdx (fun j q => zval G f (j + 1 + n) q) = zval G f n q :: zfl G f (n + 1) l
    rw [Nat.zero_add, ← zfl_ix G f l (n + 1)]
    have e : (fun j q => zval G f (j + 1 + n) q) = (fun j q => zval G f (j + (n + 1)) q) := funext fun j => by rw [show j + 1 + n = j + (n + 1) by omega]
    rw [e]
theorem zfs_zfl {G : zG} {f : Nat → Int32} {sl : List (Nat × Nat)} : zfs G f sl = zfl G f 0 sl := zfl_ix G f sl 0
/-- the object k stands as the memory says -/
def xAt (G : zG) (L : Nat) (xs : Nat → Int32) (H : Heap) (k : Nat) : Prop := va_at (zD G) vwCl (zad G k, zcell G (xh0 L xs k) (zsh k)) H
section XZ
variable {G : zG} {L b0 : Nat} {xs : Nat → Int32} {H : Heap}
theorem xa (ha : ∀ k, k < 309 → zad G k = b0 + xoff k) {k n : Nat} (hk : k < 309) (e : xoff k = n) : zad G k = b0 + n := by rw [ha k hk, e]
theorem xat {k a i : Nat} {cs : List va_E} {x : va_E} (q : xQ G a cs H) (e : zad G k = a + i) (z : zcell G (xh0 L xs k) (zsh k) = x) (g : cs[i]? = some x) : xAt G L xs H k := by
  unfold xAt
  rw [e, z]
  exact q i x g
theorem xz_0 (ha : ∀ k, k < 309 → zad G k = b0 + xoff k) : zcell G (xh0 L xs 0) (zsh 0) = .inr (6, [.ref (b0 + 1), .ref (b0 + 25), .ref (b0 + 49), .ref (b0 + 73), .ref (b0 + 79), .ref (b0 + 81), .ref (b0 + 284), .ref (b0 + 293), .int (nI 0)]) := by
  rw [zsh_0]
  show (.inr (6, zfs G (xh0 L xs 0) [(1, 1), (1, 25), (1, 49), (1, 73), (1, 79), (1, 106), (1, 81), (1, 90), (0, 0)]) : va_E) = _
  rw [zfs_zfl]
  show (.inr (6, [.ref (zad G 1), .ref (zad G 25), .ref (zad G 49), .ref (zad G 73), .ref (zad G 79), .ref (zad G 106), .ref (zad G 81), .ref (zad G 90), .int (nI 0)]) : va_E) = _
  rw [xa ha (k := 1) (n := 1) (by decide) rfl, xa ha (k := 25) (n := 25) (by decide) rfl, xa ha (k := 49) (n := 49) (by decide) rfl, xa ha (k := 73) (n := 73) (by decide) rfl, xa ha (k := 79) (n := 79) (by decide) rfl, xa ha (k := 106) (n := 81) (by decide) rfl, xa ha (k := 81) (n := 284) (by decide) rfl, xa ha (k := 90) (n := 293) (by decide) rfl]
theorem xz_1 (ha : ∀ k, k < 309 → zad G k = b0 + xoff k) : zcell G (xh0 L xs 1) (zsh 1) = .inr (5, [.ref (b0 + 2), .ref (b0 + 3), .ref (b0 + 4), .ref (b0 + 13), .ref (b0 + 17), .ref (b0 + 21), .ref (b0 + 22), .ref (b0 + 23), .ref (b0 + 24), .int (nI 44), .int (nI 0), .int (nI 1), .int (nI 0), .int (nI 0), .int (nI 0)]) := by
  rw [zsh_1]
  show (.inr (5, zfs G (xh0 L xs 1) [(1, 2), (1, 3), (1, 4), (1, 13), (1, 17), (1, 21), (1, 22), (1, 23), (1, 24), (0, 0), (0, 0), (0, 0), (0, 0), (0, 0), (0, 0)]) : va_E) = _
  rw [zfs_zfl]
  show (.inr (5, [.ref (zad G 2), .ref (zad G 3), .ref (zad G 4), .ref (zad G 13), .ref (zad G 17), .ref (zad G 21), .ref (zad G 22), .ref (zad G 23), .ref (zad G 24), .int (nI 44), .int (nI 0), .int (nI 1), .int (nI 0), .int (nI 0), .int (nI 0)]) : va_E) = _
  rw [xa ha (k := 2) (n := 2) (by decide) rfl, xa ha (k := 3) (n := 3) (by decide) rfl, xa ha (k := 4) (n := 4) (by decide) rfl, xa ha (k := 13) (n := 13) (by decide) rfl, xa ha (k := 17) (n := 17) (by decide) rfl, xa ha (k := 21) (n := 21) (by decide) rfl, xa ha (k := 22) (n := 22) (by decide) rfl, xa ha (k := 23) (n := 23) (by decide) rfl, xa ha (k := 24) (n := 24) (by decide) rfl]
theorem xz_2 (ha : ∀ k, k < 309 → zad G k = b0 + xoff k) : zcell G (xh0 L xs 2) (zsh 2) = .inl (G.2.2.1, 80, .inl (fun _ => nI 0)) := by
  rw [zsh_2]
  rfl
theorem xz_3 (ha : ∀ k, k < 309 → zad G k = b0 + xoff k) : zcell G (xh0 L xs 3) (zsh 3) = .inl (G.2.2.1, 3, .inl (upd ((upd ((upd (fun _ => nI 0) (nI 0).toNatClampNeg (nI 0))) (nI 1).toNatClampNeg (nI 3))) (nI 2).toNatClampNeg (nI 0))) := by
  rw [zsh_3]
  rfl
theorem xz_4 (ha : ∀ k, k < 309 → zad G k = b0 + xoff k) : zcell G (xh0 L xs 4) (zsh 4) = .inl (G.2.2.2.1 1, 8, .inr (.inr (.inr (.inr (xrow (b0 + 4) 8))))) := by
  rw [zsh_4]
  have e := xrows (G := G) (sl := [(1, 5), (1, 6), (1, 7), (1, 8), (1, 9), (1, 10), (1, 11), (1, 12)]) (N := 8) (t0 := 5) (a := b0 + 4) rfl (by decide +kernel) fun j hj => by rw [ha _ (by omega)]; unfold xoff; rw [if_pos (by omega)]; omega
  exact congrArg (fun f => (.inl (G.2.2.2.1 1, 8, .inr (.inr (.inr (.inr f)))) : va_E)) e
theorem xz_5 (ha : ∀ k, k < 309 → zad G k = b0 + xoff k) : zcell G (xh0 L xs 5) (zsh 5) = .inl (G.2.2.1, 8, .inl (fun _ => nI 0)) := by
  rw [zsh_5]
  rfl
theorem xz_6 (ha : ∀ k, k < 309 → zad G k = b0 + xoff k) : zcell G (xh0 L xs 6) (zsh 6) = .inl (G.2.2.1, 8, .inl (fun _ => nI 0)) := by
  rw [zsh_6]
  rfl
theorem xz_7 (ha : ∀ k, k < 309 → zad G k = b0 + xoff k) : zcell G (xh0 L xs 7) (zsh 7) = .inl (G.2.2.1, 8, .inl (fun _ => nI 0)) := by
  rw [zsh_7]
  rfl
theorem xz_8 (ha : ∀ k, k < 309 → zad G k = b0 + xoff k) : zcell G (xh0 L xs 8) (zsh 8) = .inl (G.2.2.1, 8, .inl (fun _ => nI 0)) := by
  rw [zsh_8]
  rfl
theorem xz_9 (ha : ∀ k, k < 309 → zad G k = b0 + xoff k) : zcell G (xh0 L xs 9) (zsh 9) = .inl (G.2.2.1, 8, .inl (fun _ => nI 0)) := by
  rw [zsh_9]
  rfl
theorem xz_10 (ha : ∀ k, k < 309 → zad G k = b0 + xoff k) : zcell G (xh0 L xs 10) (zsh 10) = .inl (G.2.2.1, 8, .inl (fun _ => nI 0)) := by
  rw [zsh_10]
  rfl
theorem xz_11 (ha : ∀ k, k < 309 → zad G k = b0 + xoff k) : zcell G (xh0 L xs 11) (zsh 11) = .inl (G.2.2.1, 8, .inl (fun _ => nI 0)) := by
  rw [zsh_11]
  rfl
theorem xz_12 (ha : ∀ k, k < 309 → zad G k = b0 + xoff k) : zcell G (xh0 L xs 12) (zsh 12) = .inl (G.2.2.1, 8, .inl (fun _ => nI 0)) := by
  rw [zsh_12]
  rfl
theorem xz_13 (ha : ∀ k, k < 309 → zad G k = b0 + xoff k) : zcell G (xh0 L xs 13) (zsh 13) = .inr (4, [.ref (b0 + 14), .ref (b0 + 15), .ref (b0 + 16), .int (nI 0), .int (nI 0)]) := by
  rw [zsh_13]
  show (.inr (4, zfs G (xh0 L xs 13) [(1, 14), (1, 15), (1, 16), (0, 0), (2, 0)]) : va_E) = _
  rw [zfs_zfl]
  show (.inr (4, [.ref (zad G 14), .ref (zad G 15), .ref (zad G 16), .int (nI 0), .int (nI 0)]) : va_E) = _
  rw [xa ha (k := 14) (n := 14) (by decide) rfl, xa ha (k := 15) (n := 15) (by decide) rfl, xa ha (k := 16) (n := 16) (by decide) rfl]
theorem xz_14 (ha : ∀ k, k < 309 → zad G k = b0 + xoff k) : zcell G (xh0 L xs 14) (zsh 14) = .inl (G.2.2.1, 60, .inl (fun _ => nI 0)) := by
  rw [zsh_14]
  rfl
theorem xz_15 (ha : ∀ k, k < 309 → zad G k = b0 + xoff k) : zcell G (xh0 L xs 15) (zsh 15) = .inl (G.2.2.1, 60, .inl (fun _ => nI 0)) := by
  rw [zsh_15]
  rfl
theorem xz_16 (ha : ∀ k, k < 309 → zad G k = b0 + xoff k) : zcell G (xh0 L xs 16) (zsh 16) = .inl (G.2.2.1, 60, .inl (fun _ => nI 0)) := by
  rw [zsh_16]
  rfl
theorem xz_17 (ha : ∀ k, k < 309 → zad G k = b0 + xoff k) : zcell G (xh0 L xs 17) (zsh 17) = .inr (4, [.ref (b0 + 18), .ref (b0 + 19), .ref (b0 + 20), .int (nI 0), .int (nI 0)]) := by
  rw [zsh_17]
  show (.inr (4, zfs G (xh0 L xs 17) [(1, 18), (1, 19), (1, 20), (0, 0), (2, 0)]) : va_E) = _
  rw [zfs_zfl]
  show (.inr (4, [.ref (zad G 18), .ref (zad G 19), .ref (zad G 20), .int (nI 0), .int (nI 0)]) : va_E) = _
  rw [xa ha (k := 18) (n := 18) (by decide) rfl, xa ha (k := 19) (n := 19) (by decide) rfl, xa ha (k := 20) (n := 20) (by decide) rfl]
theorem xz_18 (ha : ∀ k, k < 309 → zad G k = b0 + xoff k) : zcell G (xh0 L xs 18) (zsh 18) = .inl (G.2.2.1, 60, .inl (fun _ => nI 0)) := by
  rw [zsh_18]
  rfl
theorem xz_19 (ha : ∀ k, k < 309 → zad G k = b0 + xoff k) : zcell G (xh0 L xs 19) (zsh 19) = .inl (G.2.2.1, 60, .inl (fun _ => nI 0)) := by
  rw [zsh_19]
  rfl
theorem xz_20 (ha : ∀ k, k < 309 → zad G k = b0 + xoff k) : zcell G (xh0 L xs 20) (zsh 20) = .inl (G.2.2.1, 60, .inl (fun _ => nI 0)) := by
  rw [zsh_20]
  rfl
theorem xz_21 (ha : ∀ k, k < 309 → zad G k = b0 + xoff k) : zcell G (xh0 L xs 21) (zsh 21) = .inl (G.2.2.1, 5, .inl (fun _ => nI 0)) := by
  rw [zsh_21]
  rfl
theorem xz_22 (ha : ∀ k, k < 309 → zad G k = b0 + xoff k) : zcell G (xh0 L xs 22) (zsh 22) = .inl (G.2.2.1, 8, .inl (fun _ => nI 0)) := by
  rw [zsh_22]
  rfl
theorem xz_23 (ha : ∀ k, k < 309 → zad G k = b0 + xoff k) : zcell G (xh0 L xs 23) (zsh 23) = .inl (G.2.2.1, 60, .inl (fun _ => nI 0)) := by
  rw [zsh_23]
  rfl
theorem xz_24 (ha : ∀ k, k < 309 → zad G k = b0 + xoff k) : zcell G (xh0 L xs 24) (zsh 24) = .inl (G.2.2.1, 24, .inl (fun _ => nI 0)) := by
  rw [zsh_24]
  rfl
theorem xz_25 (ha : ∀ k, k < 309 → zad G k = b0 + xoff k) : zcell G (xh0 L xs 25) (zsh 25) = .inr (5, [.ref (b0 + 26), .ref (b0 + 27), .ref (b0 + 28), .ref (b0 + 37), .ref (b0 + 41), .ref (b0 + 45), .ref (b0 + 46), .ref (b0 + 47), .ref (b0 + 48), .int (nI 44), .int (nI 0), .int (nI 1), .int (nI 0), .int (nI 0), .int (nI 0)]) := by
  rw [zsh_25]
  show (.inr (5, zfs G (xh0 L xs 25) [(1, 26), (1, 27), (1, 28), (1, 37), (1, 41), (1, 45), (1, 46), (1, 47), (1, 48), (0, 0), (0, 0), (0, 0), (0, 0), (0, 0), (0, 0)]) : va_E) = _
  rw [zfs_zfl]
  show (.inr (5, [.ref (zad G 26), .ref (zad G 27), .ref (zad G 28), .ref (zad G 37), .ref (zad G 41), .ref (zad G 45), .ref (zad G 46), .ref (zad G 47), .ref (zad G 48), .int (nI 44), .int (nI 0), .int (nI 1), .int (nI 0), .int (nI 0), .int (nI 0)]) : va_E) = _
  rw [xa ha (k := 26) (n := 26) (by decide) rfl, xa ha (k := 27) (n := 27) (by decide) rfl, xa ha (k := 28) (n := 28) (by decide) rfl, xa ha (k := 37) (n := 37) (by decide) rfl, xa ha (k := 41) (n := 41) (by decide) rfl, xa ha (k := 45) (n := 45) (by decide) rfl, xa ha (k := 46) (n := 46) (by decide) rfl, xa ha (k := 47) (n := 47) (by decide) rfl, xa ha (k := 48) (n := 48) (by decide) rfl]
theorem xz_26 (ha : ∀ k, k < 309 → zad G k = b0 + xoff k) : zcell G (xh0 L xs 26) (zsh 26) = .inl (G.2.2.1, 80, .inl (fun _ => nI 0)) := by
  rw [zsh_26]
  rfl
theorem xz_27 (ha : ∀ k, k < 309 → zad G k = b0 + xoff k) : zcell G (xh0 L xs 27) (zsh 27) = .inl (G.2.2.1, 3, .inl (upd ((upd ((upd (fun _ => nI 0) (nI 0).toNatClampNeg (nI 0))) (nI 1).toNatClampNeg (nI 3))) (nI 2).toNatClampNeg (nI 0))) := by
  rw [zsh_27]
  rfl
theorem xz_28 (ha : ∀ k, k < 309 → zad G k = b0 + xoff k) : zcell G (xh0 L xs 28) (zsh 28) = .inl (G.2.2.2.1 1, 8, .inr (.inr (.inr (.inr (xrow (b0 + 28) 8))))) := by
  rw [zsh_28]
  have e := xrows (G := G) (sl := [(1, 29), (1, 30), (1, 31), (1, 32), (1, 33), (1, 34), (1, 35), (1, 36)]) (N := 8) (t0 := 29) (a := b0 + 28) rfl (by decide +kernel) fun j hj => by rw [ha _ (by omega)]; unfold xoff; rw [if_pos (by omega)]; omega
  exact congrArg (fun f => (.inl (G.2.2.2.1 1, 8, .inr (.inr (.inr (.inr f)))) : va_E)) e
theorem xz_29 (ha : ∀ k, k < 309 → zad G k = b0 + xoff k) : zcell G (xh0 L xs 29) (zsh 29) = .inl (G.2.2.1, 8, .inl (fun _ => nI 0)) := by
  rw [zsh_29]
  rfl
theorem xz_30 (ha : ∀ k, k < 309 → zad G k = b0 + xoff k) : zcell G (xh0 L xs 30) (zsh 30) = .inl (G.2.2.1, 8, .inl (fun _ => nI 0)) := by
  rw [zsh_30]
  rfl
theorem xz_31 (ha : ∀ k, k < 309 → zad G k = b0 + xoff k) : zcell G (xh0 L xs 31) (zsh 31) = .inl (G.2.2.1, 8, .inl (fun _ => nI 0)) := by
  rw [zsh_31]
  rfl
theorem xz_32 (ha : ∀ k, k < 309 → zad G k = b0 + xoff k) : zcell G (xh0 L xs 32) (zsh 32) = .inl (G.2.2.1, 8, .inl (fun _ => nI 0)) := by
  rw [zsh_32]
  rfl
theorem xz_33 (ha : ∀ k, k < 309 → zad G k = b0 + xoff k) : zcell G (xh0 L xs 33) (zsh 33) = .inl (G.2.2.1, 8, .inl (fun _ => nI 0)) := by
  rw [zsh_33]
  rfl
theorem xz_34 (ha : ∀ k, k < 309 → zad G k = b0 + xoff k) : zcell G (xh0 L xs 34) (zsh 34) = .inl (G.2.2.1, 8, .inl (fun _ => nI 0)) := by
  rw [zsh_34]
  rfl
theorem xz_35 (ha : ∀ k, k < 309 → zad G k = b0 + xoff k) : zcell G (xh0 L xs 35) (zsh 35) = .inl (G.2.2.1, 8, .inl (fun _ => nI 0)) := by
  rw [zsh_35]
  rfl
theorem xz_36 (ha : ∀ k, k < 309 → zad G k = b0 + xoff k) : zcell G (xh0 L xs 36) (zsh 36) = .inl (G.2.2.1, 8, .inl (fun _ => nI 0)) := by
  rw [zsh_36]
  rfl
theorem xz_37 (ha : ∀ k, k < 309 → zad G k = b0 + xoff k) : zcell G (xh0 L xs 37) (zsh 37) = .inr (4, [.ref (b0 + 38), .ref (b0 + 39), .ref (b0 + 40), .int (nI 0), .int (nI 0)]) := by
  rw [zsh_37]
  show (.inr (4, zfs G (xh0 L xs 37) [(1, 38), (1, 39), (1, 40), (0, 0), (2, 0)]) : va_E) = _
  rw [zfs_zfl]
  show (.inr (4, [.ref (zad G 38), .ref (zad G 39), .ref (zad G 40), .int (nI 0), .int (nI 0)]) : va_E) = _
  rw [xa ha (k := 38) (n := 38) (by decide) rfl, xa ha (k := 39) (n := 39) (by decide) rfl, xa ha (k := 40) (n := 40) (by decide) rfl]
theorem xz_38 (ha : ∀ k, k < 309 → zad G k = b0 + xoff k) : zcell G (xh0 L xs 38) (zsh 38) = .inl (G.2.2.1, 60, .inl (fun _ => nI 0)) := by
  rw [zsh_38]
  rfl
theorem xz_39 (ha : ∀ k, k < 309 → zad G k = b0 + xoff k) : zcell G (xh0 L xs 39) (zsh 39) = .inl (G.2.2.1, 60, .inl (fun _ => nI 0)) := by
  rw [zsh_39]
  rfl
theorem xz_40 (ha : ∀ k, k < 309 → zad G k = b0 + xoff k) : zcell G (xh0 L xs 40) (zsh 40) = .inl (G.2.2.1, 60, .inl (fun _ => nI 0)) := by
  rw [zsh_40]
  rfl
theorem xz_41 (ha : ∀ k, k < 309 → zad G k = b0 + xoff k) : zcell G (xh0 L xs 41) (zsh 41) = .inr (4, [.ref (b0 + 42), .ref (b0 + 43), .ref (b0 + 44), .int (nI 0), .int (nI 0)]) := by
  rw [zsh_41]
  show (.inr (4, zfs G (xh0 L xs 41) [(1, 42), (1, 43), (1, 44), (0, 0), (2, 0)]) : va_E) = _
  rw [zfs_zfl]
  show (.inr (4, [.ref (zad G 42), .ref (zad G 43), .ref (zad G 44), .int (nI 0), .int (nI 0)]) : va_E) = _
  rw [xa ha (k := 42) (n := 42) (by decide) rfl, xa ha (k := 43) (n := 43) (by decide) rfl, xa ha (k := 44) (n := 44) (by decide) rfl]
theorem xz_42 (ha : ∀ k, k < 309 → zad G k = b0 + xoff k) : zcell G (xh0 L xs 42) (zsh 42) = .inl (G.2.2.1, 60, .inl (fun _ => nI 0)) := by
  rw [zsh_42]
  rfl
theorem xz_43 (ha : ∀ k, k < 309 → zad G k = b0 + xoff k) : zcell G (xh0 L xs 43) (zsh 43) = .inl (G.2.2.1, 60, .inl (fun _ => nI 0)) := by
  rw [zsh_43]
  rfl
theorem xz_44 (ha : ∀ k, k < 309 → zad G k = b0 + xoff k) : zcell G (xh0 L xs 44) (zsh 44) = .inl (G.2.2.1, 60, .inl (fun _ => nI 0)) := by
  rw [zsh_44]
  rfl
theorem xz_45 (ha : ∀ k, k < 309 → zad G k = b0 + xoff k) : zcell G (xh0 L xs 45) (zsh 45) = .inl (G.2.2.1, 5, .inl (fun _ => nI 0)) := by
  rw [zsh_45]
  rfl
theorem xz_46 (ha : ∀ k, k < 309 → zad G k = b0 + xoff k) : zcell G (xh0 L xs 46) (zsh 46) = .inl (G.2.2.1, 8, .inl (fun _ => nI 0)) := by
  rw [zsh_46]
  rfl
theorem xz_47 (ha : ∀ k, k < 309 → zad G k = b0 + xoff k) : zcell G (xh0 L xs 47) (zsh 47) = .inl (G.2.2.1, 60, .inl (fun _ => nI 0)) := by
  rw [zsh_47]
  rfl
theorem xz_48 (ha : ∀ k, k < 309 → zad G k = b0 + xoff k) : zcell G (xh0 L xs 48) (zsh 48) = .inl (G.2.2.1, 24, .inl (fun _ => nI 0)) := by
  rw [zsh_48]
  rfl
theorem xz_49 (ha : ∀ k, k < 309 → zad G k = b0 + xoff k) : zcell G (xh0 L xs 49) (zsh 49) = .inr (5, [.ref (b0 + 50), .ref (b0 + 51), .ref (b0 + 52), .ref (b0 + 61), .ref (b0 + 65), .ref (b0 + 69), .ref (b0 + 70), .ref (b0 + 71), .ref (b0 + 72), .int (nI 44), .int (nI 0), .int (nI 1), .int (nI 0), .int (nI 0), .int (nI 0)]) := by
  rw [zsh_49]
  show (.inr (5, zfs G (xh0 L xs 49) [(1, 50), (1, 51), (1, 52), (1, 61), (1, 65), (1, 69), (1, 70), (1, 71), (1, 72), (0, 0), (0, 0), (0, 0), (0, 0), (0, 0), (0, 0)]) : va_E) = _
  rw [zfs_zfl]
  show (.inr (5, [.ref (zad G 50), .ref (zad G 51), .ref (zad G 52), .ref (zad G 61), .ref (zad G 65), .ref (zad G 69), .ref (zad G 70), .ref (zad G 71), .ref (zad G 72), .int (nI 44), .int (nI 0), .int (nI 1), .int (nI 0), .int (nI 0), .int (nI 0)]) : va_E) = _
  rw [xa ha (k := 50) (n := 50) (by decide) rfl, xa ha (k := 51) (n := 51) (by decide) rfl, xa ha (k := 52) (n := 52) (by decide) rfl, xa ha (k := 61) (n := 61) (by decide) rfl, xa ha (k := 65) (n := 65) (by decide) rfl, xa ha (k := 69) (n := 69) (by decide) rfl, xa ha (k := 70) (n := 70) (by decide) rfl, xa ha (k := 71) (n := 71) (by decide) rfl, xa ha (k := 72) (n := 72) (by decide) rfl]
theorem xz_50 (ha : ∀ k, k < 309 → zad G k = b0 + xoff k) : zcell G (xh0 L xs 50) (zsh 50) = .inl (G.2.2.1, 80, .inl (fun _ => nI 0)) := by
  rw [zsh_50]
  rfl
theorem xz_51 (ha : ∀ k, k < 309 → zad G k = b0 + xoff k) : zcell G (xh0 L xs 51) (zsh 51) = .inl (G.2.2.1, 3, .inl (upd ((upd ((upd (fun _ => nI 0) (nI 0).toNatClampNeg (nI 0))) (nI 1).toNatClampNeg (nI 3))) (nI 2).toNatClampNeg (nI 0))) := by
  rw [zsh_51]
  rfl
theorem xz_52 (ha : ∀ k, k < 309 → zad G k = b0 + xoff k) : zcell G (xh0 L xs 52) (zsh 52) = .inl (G.2.2.2.1 1, 8, .inr (.inr (.inr (.inr (xrow (b0 + 52) 8))))) := by
  rw [zsh_52]
  have e := xrows (G := G) (sl := [(1, 53), (1, 54), (1, 55), (1, 56), (1, 57), (1, 58), (1, 59), (1, 60)]) (N := 8) (t0 := 53) (a := b0 + 52) rfl (by decide +kernel) fun j hj => by rw [ha _ (by omega)]; unfold xoff; rw [if_pos (by omega)]; omega
  exact congrArg (fun f => (.inl (G.2.2.2.1 1, 8, .inr (.inr (.inr (.inr f)))) : va_E)) e
theorem xz_53 (ha : ∀ k, k < 309 → zad G k = b0 + xoff k) : zcell G (xh0 L xs 53) (zsh 53) = .inl (G.2.2.1, 8, .inl (fun _ => nI 0)) := by
  rw [zsh_53]
  rfl
theorem xz_54 (ha : ∀ k, k < 309 → zad G k = b0 + xoff k) : zcell G (xh0 L xs 54) (zsh 54) = .inl (G.2.2.1, 8, .inl (fun _ => nI 0)) := by
  rw [zsh_54]
  rfl
theorem xz_55 (ha : ∀ k, k < 309 → zad G k = b0 + xoff k) : zcell G (xh0 L xs 55) (zsh 55) = .inl (G.2.2.1, 8, .inl (fun _ => nI 0)) := by
  rw [zsh_55]
  rfl
theorem xz_56 (ha : ∀ k, k < 309 → zad G k = b0 + xoff k) : zcell G (xh0 L xs 56) (zsh 56) = .inl (G.2.2.1, 8, .inl (fun _ => nI 0)) := by
  rw [zsh_56]
  rfl
theorem xz_57 (ha : ∀ k, k < 309 → zad G k = b0 + xoff k) : zcell G (xh0 L xs 57) (zsh 57) = .inl (G.2.2.1, 8, .inl (fun _ => nI 0)) := by
  rw [zsh_57]
  rfl
theorem xz_58 (ha : ∀ k, k < 309 → zad G k = b0 + xoff k) : zcell G (xh0 L xs 58) (zsh 58) = .inl (G.2.2.1, 8, .inl (fun _ => nI 0)) := by
  rw [zsh_58]
  rfl
theorem xz_59 (ha : ∀ k, k < 309 → zad G k = b0 + xoff k) : zcell G (xh0 L xs 59) (zsh 59) = .inl (G.2.2.1, 8, .inl (fun _ => nI 0)) := by
  rw [zsh_59]
  rfl
theorem xz_60 (ha : ∀ k, k < 309 → zad G k = b0 + xoff k) : zcell G (xh0 L xs 60) (zsh 60) = .inl (G.2.2.1, 8, .inl (fun _ => nI 0)) := by
  rw [zsh_60]
  rfl
theorem xz_61 (ha : ∀ k, k < 309 → zad G k = b0 + xoff k) : zcell G (xh0 L xs 61) (zsh 61) = .inr (4, [.ref (b0 + 62), .ref (b0 + 63), .ref (b0 + 64), .int (nI 0), .int (nI 0)]) := by
  rw [zsh_61]
  show (.inr (4, zfs G (xh0 L xs 61) [(1, 62), (1, 63), (1, 64), (0, 0), (2, 0)]) : va_E) = _
  rw [zfs_zfl]
  show (.inr (4, [.ref (zad G 62), .ref (zad G 63), .ref (zad G 64), .int (nI 0), .int (nI 0)]) : va_E) = _
  rw [xa ha (k := 62) (n := 62) (by decide) rfl, xa ha (k := 63) (n := 63) (by decide) rfl, xa ha (k := 64) (n := 64) (by decide) rfl]
theorem xz_62 (ha : ∀ k, k < 309 → zad G k = b0 + xoff k) : zcell G (xh0 L xs 62) (zsh 62) = .inl (G.2.2.1, 60, .inl (fun _ => nI 0)) := by
  rw [zsh_62]
  rfl
theorem xz_63 (ha : ∀ k, k < 309 → zad G k = b0 + xoff k) : zcell G (xh0 L xs 63) (zsh 63) = .inl (G.2.2.1, 60, .inl (fun _ => nI 0)) := by
  rw [zsh_63]
  rfl
theorem xz_64 (ha : ∀ k, k < 309 → zad G k = b0 + xoff k) : zcell G (xh0 L xs 64) (zsh 64) = .inl (G.2.2.1, 60, .inl (fun _ => nI 0)) := by
  rw [zsh_64]
  rfl
theorem xz_65 (ha : ∀ k, k < 309 → zad G k = b0 + xoff k) : zcell G (xh0 L xs 65) (zsh 65) = .inr (4, [.ref (b0 + 66), .ref (b0 + 67), .ref (b0 + 68), .int (nI 0), .int (nI 0)]) := by
  rw [zsh_65]
  show (.inr (4, zfs G (xh0 L xs 65) [(1, 66), (1, 67), (1, 68), (0, 0), (2, 0)]) : va_E) = _
  rw [zfs_zfl]
  show (.inr (4, [.ref (zad G 66), .ref (zad G 67), .ref (zad G 68), .int (nI 0), .int (nI 0)]) : va_E) = _
  rw [xa ha (k := 66) (n := 66) (by decide) rfl, xa ha (k := 67) (n := 67) (by decide) rfl, xa ha (k := 68) (n := 68) (by decide) rfl]
theorem xz_66 (ha : ∀ k, k < 309 → zad G k = b0 + xoff k) : zcell G (xh0 L xs 66) (zsh 66) = .inl (G.2.2.1, 60, .inl (fun _ => nI 0)) := by
  rw [zsh_66]
  rfl
theorem xz_67 (ha : ∀ k, k < 309 → zad G k = b0 + xoff k) : zcell G (xh0 L xs 67) (zsh 67) = .inl (G.2.2.1, 60, .inl (fun _ => nI 0)) := by
  rw [zsh_67]
  rfl
theorem xz_68 (ha : ∀ k, k < 309 → zad G k = b0 + xoff k) : zcell G (xh0 L xs 68) (zsh 68) = .inl (G.2.2.1, 60, .inl (fun _ => nI 0)) := by
  rw [zsh_68]
  rfl
theorem xz_69 (ha : ∀ k, k < 309 → zad G k = b0 + xoff k) : zcell G (xh0 L xs 69) (zsh 69) = .inl (G.2.2.1, 5, .inl (fun _ => nI 0)) := by
  rw [zsh_69]
  rfl
theorem xz_70 (ha : ∀ k, k < 309 → zad G k = b0 + xoff k) : zcell G (xh0 L xs 70) (zsh 70) = .inl (G.2.2.1, 8, .inl (fun _ => nI 0)) := by
  rw [zsh_70]
  rfl
theorem xz_71 (ha : ∀ k, k < 309 → zad G k = b0 + xoff k) : zcell G (xh0 L xs 71) (zsh 71) = .inl (G.2.2.1, 60, .inl (fun _ => nI 0)) := by
  rw [zsh_71]
  rfl
theorem xz_72 (ha : ∀ k, k < 309 → zad G k = b0 + xoff k) : zcell G (xh0 L xs 72) (zsh 72) = .inl (G.2.2.1, 24, .inl (fun _ => nI 0)) := by
  rw [zsh_72]
  rfl
theorem xz_73 (ha : ∀ k, k < 309 → zad G k = b0 + xoff k) : zcell G (xh0 L xs 73) (zsh 73) = .inr (0, [.ref (b0 + 74), .ref (b0 + 78), .int (nI 0), .int (nI 0), .int (-1), .ref (zad G 316)]) := by
  rw [zsh_73]
  show (.inr (0, zfs G (xh0 L xs 73) [(1, 74), (3, 0), (0, 0), (0, 0), (0, 0), (3, 0)]) : va_E) = _
  rw [zfs_zfl]
  show (.inr (0, [.ref (zad G 74), .ref (zad G (nI 78).toNatClampNeg), .int (nI 0), .int (nI 0), .int (-1), .ref (zad G (nI 316).toNatClampNeg)]) : va_E) = _
  rw [show (nI 316).toNatClampNeg = 316 from by decide, show (nI 78).toNatClampNeg = 78 from by decide, xa ha (k := 74) (n := 74) (by decide) rfl, xa ha (k := 78) (n := 78) (by decide) rfl]
theorem xz_74 (ha : ∀ k, k < 309 → zad G k = b0 + xoff k) : zcell G (xh0 L xs 74) (zsh 74) = .inr (4, [.ref (b0 + 75), .ref (b0 + 76), .ref (b0 + 77), .int (nI 0), .int (nI 0)]) := by
  rw [zsh_74]
  show (.inr (4, zfs G (xh0 L xs 74) [(1, 75), (1, 76), (1, 77), (0, 0), (2, 0)]) : va_E) = _
  rw [zfs_zfl]
  show (.inr (4, [.ref (zad G 75), .ref (zad G 76), .ref (zad G 77), .int (nI 0), .int (nI 0)]) : va_E) = _
  rw [xa ha (k := 75) (n := 75) (by decide) rfl, xa ha (k := 76) (n := 76) (by decide) rfl, xa ha (k := 77) (n := 77) (by decide) rfl]
theorem xz_75 (ha : ∀ k, k < 309 → zad G k = b0 + xoff k) : zcell G (xh0 L xs 75) (zsh 75) = .inl (G.2.2.1, 60, .inl (fun _ => nI 0)) := by
  rw [zsh_75]
  rfl
theorem xz_76 (ha : ∀ k, k < 309 → zad G k = b0 + xoff k) : zcell G (xh0 L xs 76) (zsh 76) = .inl (G.2.2.1, 60, .inl (fun _ => nI 0)) := by
  rw [zsh_76]
  rfl
theorem xz_77 (ha : ∀ k, k < 309 → zad G k = b0 + xoff k) : zcell G (xh0 L xs 77) (zsh 77) = .inl (G.2.2.1, 60, .inl (fun _ => nI 0)) := by
  rw [zsh_77]
  rfl
theorem xz_78 (ha : ∀ k, k < 309 → zad G k = b0 + xoff k) : zcell G (xh0 L xs 78) (zsh 78) = .inl (G.2.2.1, 0, .inl (fun _ => nI 0)) := by
  rw [zsh_78]
  rfl
theorem xz_79 (ha : ∀ k, k < 309 → zad G k = b0 + xoff k) : zcell G (xh0 L xs 79) (zsh 79) = .inr (3, [.ref (b0 + 80), .int (nI 0), .int (nI 0), .int (nI 0), .int (nI 0), .int (nI 0)]) := by
  rw [zsh_79]
  show (.inr (3, zfs G (xh0 L xs 79) [(1, 80), (0, 0), (2, 0), (0, 0), (0, 0), (0, 0)]) : va_E) = _
  rw [zfs_zfl]
  show (.inr (3, [.ref (zad G 80), .int (nI 0), .int (nI 0), .int (nI 0), .int (nI 0), .int (nI 0)]) : va_E) = _
  rw [xa ha (k := 80) (n := 80) (by decide) rfl]
theorem xz_80 (ha : ∀ k, k < 309 → zad G k = b0 + xoff k) : zcell G (xh0 L xs 80) (zsh 80) = .inl (G.2.2.1, 30, .inl (fun _ => nI 0)) := by
  rw [zsh_80]
  rfl
theorem xz_81 (ha : ∀ k, k < 309 → zad G k = b0 + xoff k) : zcell G (xh0 L xs 81) (zsh 81) = .inl (G.2.2.2.1 2, 4, .inr (.inr (.inr (.inr (va_up (va_up (va_up (va_up (fun _ => none) (nI 0).toNatClampNeg (some (b0 + 285))) (nI 1).toNatClampNeg (some (b0 + 287))) (nI 2).toNatClampNeg (some (b0 + 289))) (nI 3).toNatClampNeg (some (b0 + 291))))))) := by
  rw [zsh_81]
  show (.inl (G.2.2.2.1 2, 4, .inr (.inr (.inr (.inr fun j => (([(1, 82), (1, 84), (1, 86), (1, 88)] : List (Nat × Nat))[j]?).map fun q => zad G q.2)))) : va_E) = _
  refine congrArg (fun f => (.inl (G.2.2.2.1 2, 4, .inr (.inr (.inr (.inr f)))) : va_E)) (funext fun j => ?_)
  rw [show (nI 0).toNatClampNeg = 0 from rfl, show (nI 1).toNatClampNeg = 1 from rfl, show (nI 2).toNatClampNeg = 2 from rfl, show (nI 3).toNatClampNeg = 3 from rfl]
  match j with
  | 0 => show some (zad G 82) = some _; rw [xa ha (k := 82) (n := 285) (by decide) rfl]
  | 1 => show some (zad G 84) = some _; rw [xa ha (k := 84) (n := 287) (by decide) rfl]
  | 2 => show some (zad G 86) = some _; rw [xa ha (k := 86) (n := 289) (by decide) rfl]
  | 3 => show some (zad G 88) = some _; rw [xa ha (k := 88) (n := 291) (by decide) rfl]
  | j + 4 => simp [va_up]
theorem xz_82 (ha : ∀ k, k < 309 → zad G k = b0 + xoff k) : zcell G (xh0 L xs 82) (zsh 82) = .inr (2, [.ref (b0 + 286), .int (nI 0), .int (nI 0)]) := by
  rw [zsh_82]
  show (.inr (2, zfs G (xh0 L xs 82) [(1, 83), (0, 0), (0, 0)]) : va_E) = _
  rw [zfs_zfl]
  show (.inr (2, [.ref (zad G 83), .int (nI 0), .int (nI 0)]) : va_E) = _
  rw [xa ha (k := 83) (n := 286) (by decide) rfl]
theorem xz_83 (ha : ∀ k, k < 309 → zad G k = b0 + xoff k) : zcell G (xh0 L xs 83) (zsh 83) = .inl (G.2.2.1, 24, .inl (fun _ => nI 0)) := by
  rw [zsh_83]
  rfl
theorem xz_84 (ha : ∀ k, k < 309 → zad G k = b0 + xoff k) : zcell G (xh0 L xs 84) (zsh 84) = .inr (2, [.ref (b0 + 288), .int (nI 0), .int (nI 0)]) := by
  rw [zsh_84]
  show (.inr (2, zfs G (xh0 L xs 84) [(1, 85), (0, 0), (0, 0)]) : va_E) = _
  rw [zfs_zfl]
  show (.inr (2, [.ref (zad G 85), .int (nI 0), .int (nI 0)]) : va_E) = _
  rw [xa ha (k := 85) (n := 288) (by decide) rfl]
theorem xz_85 (ha : ∀ k, k < 309 → zad G k = b0 + xoff k) : zcell G (xh0 L xs 85) (zsh 85) = .inl (G.2.2.1, 24, .inl (fun _ => nI 0)) := by
  rw [zsh_85]
  rfl
theorem xz_86 (ha : ∀ k, k < 309 → zad G k = b0 + xoff k) : zcell G (xh0 L xs 86) (zsh 86) = .inr (2, [.ref (b0 + 290), .int (nI 0), .int (nI 0)]) := by
  rw [zsh_86]
  show (.inr (2, zfs G (xh0 L xs 86) [(1, 87), (0, 0), (0, 0)]) : va_E) = _
  rw [zfs_zfl]
  show (.inr (2, [.ref (zad G 87), .int (nI 0), .int (nI 0)]) : va_E) = _
  rw [xa ha (k := 87) (n := 290) (by decide) rfl]
theorem xz_87 (ha : ∀ k, k < 309 → zad G k = b0 + xoff k) : zcell G (xh0 L xs 87) (zsh 87) = .inl (G.2.2.1, 24, .inl (fun _ => nI 0)) := by
  rw [zsh_87]
  rfl
theorem xz_88 (ha : ∀ k, k < 309 → zad G k = b0 + xoff k) : zcell G (xh0 L xs 88) (zsh 88) = .inr (2, [.ref (b0 + 292), .int (nI 0), .int (nI 0)]) := by
  rw [zsh_88]
  show (.inr (2, zfs G (xh0 L xs 88) [(1, 89), (0, 0), (0, 0)]) : va_E) = _
  rw [zfs_zfl]
  show (.inr (2, [.ref (zad G 89), .int (nI 0), .int (nI 0)]) : va_E) = _
  rw [xa ha (k := 89) (n := 292) (by decide) rfl]
theorem xz_89 (ha : ∀ k, k < 309 → zad G k = b0 + xoff k) : zcell G (xh0 L xs 89) (zsh 89) = .inl (G.2.2.1, 24, .inl (fun _ => nI 0)) := by
  rw [zsh_89]
  rfl
theorem xz_90 (ha : ∀ k, k < 309 → zad G k = b0 + xoff k) : zcell G (xh0 L xs 90) (zsh 90) = .inl (G.2.2.1, 7, .inl (fun _ => nI 0)) := by
  rw [zsh_90]
  rfl
theorem xz_91 (ha : ∀ k, k < 309 → zad G k = b0 + xoff k) : zcell G (xh0 L xs 91) (zsh 91) = .inr (7, [.ref (b0 + 295), .ref (b0 + 296), .ref (b0 + 297), .int (nI 0), .ref (b0 + 298), .int (nI 0), .int (nI 0), .int (nI 0), .int (nI 0), .ref (b0 + 299), .ref (b0 + 300), .ref (b0 + 301), .ref (b0 + 302), .ref (b0 + 303), .ref (b0 + 304), .int (nI 0), .int (nI 0), .int (nI 0), .ref (b0 + 305), .ref (b0 + 306), .ref (b0 + 307), .ref (b0 + 308)]) := by
  rw [zsh_91]
  show (.inr (7, zfs G (xh0 L xs 91) [(1, 92), (1, 93), (1, 94), (0, 0), (1, 95), (0, 0), (0, 0), (0, 0), (0, 0), (1, 96), (1, 97), (1, 98), (1, 99), (1, 100), (1, 101), (0, 0), (0, 0), (2, 0), (1, 102), (1, 103), (1, 104), (1, 105)]) : va_E) = _
  rw [zfs_zfl]
  show (.inr (7, [.ref (zad G 92), .ref (zad G 93), .ref (zad G 94), .int (nI 0), .ref (zad G 95), .int (nI 0), .int (nI 0), .int (nI 0), .int (nI 0), .ref (zad G 96), .ref (zad G 97), .ref (zad G 98), .ref (zad G 99), .ref (zad G 100), .ref (zad G 101), .int (nI 0), .int (nI 0), .int (nI 0), .ref (zad G 102), .ref (zad G 103), .ref (zad G 104), .ref (zad G 105)]) : va_E) = _
  rw [xa ha (k := 92) (n := 295) (by decide) rfl, xa ha (k := 93) (n := 296) (by decide) rfl, xa ha (k := 94) (n := 297) (by decide) rfl, xa ha (k := 95) (n := 298) (by decide) rfl, xa ha (k := 96) (n := 299) (by decide) rfl, xa ha (k := 97) (n := 300) (by decide) rfl, xa ha (k := 98) (n := 301) (by decide) rfl, xa ha (k := 99) (n := 302) (by decide) rfl, xa ha (k := 100) (n := 303) (by decide) rfl, xa ha (k := 101) (n := 304) (by decide) rfl, xa ha (k := 102) (n := 305) (by decide) rfl, xa ha (k := 103) (n := 306) (by decide) rfl, xa ha (k := 104) (n := 307) (by decide) rfl, xa ha (k := 105) (n := 308) (by decide) rfl]
theorem xz_92 (ha : ∀ k, k < 309 → zad G k = b0 + xoff k) : zcell G (xh0 L xs 92) (zsh 92) = .inl (G.2.2.1, 488, .inl (upd ((upd ((upd (fun _ => nI 0) (nI 1).toNatClampNeg (nI 44))) (nI 5).toNatClampNeg (nI 1))) (nI 7).toNatClampNeg (nI 3))) := by
  rw [zsh_92]
  rfl
theorem xz_93 (ha : ∀ k, k < 309 → zad G k = b0 + xoff k) : zcell G (xh0 L xs 93) (zsh 93) = .inl (G.2.2.1, 488, .inl (fun _ => nI 0)) := by
  rw [zsh_93]
  rfl
theorem xz_94 (ha : ∀ k, k < 309 → zad G k = b0 + xoff k) : zcell G (xh0 L xs 94) (zsh 94) = .inl (G.2.2.1, 488, .inl (fun _ => nI 0)) := by
  rw [zsh_94]
  rfl
theorem xz_95 (ha : ∀ k, k < 309 → zad G k = b0 + xoff k) : zcell G (xh0 L xs 95) (zsh 95) = .inl (G.2.2.1, 7, .inl (fun _ => nI 0)) := by
  rw [zsh_95]
  rfl
theorem xz_96 (ha : ∀ k, k < 309 → zad G k = b0 + xoff k) : zcell G (xh0 L xs 96) (zsh 96) = .inl (G.2.2.1, 124, .inl (fun _ => nI 0)) := by
  rw [zsh_96]
  rfl
theorem xz_97 (ha : ∀ k, k < 309 → zad G k = b0 + xoff k) : zcell G (xh0 L xs 97) (zsh 97) = .inl (G.2.2.1, 128, .inl (fun _ => nI 0)) := by
  rw [zsh_97]
  rfl
theorem xz_98 (ha : ∀ k, k < 309 → zad G k = b0 + xoff k) : zcell G (xh0 L xs 98) (zsh 98) = .inl (G.2.2.1, 64, .inl (fun _ => nI 0)) := by
  rw [zsh_98]
  rfl
theorem xz_99 (ha : ∀ k, k < 309 → zad G k = b0 + xoff k) : zcell G (xh0 L xs 99) (zsh 99) = .inl (G.2.2.1, 8, .inl (fun _ => nI 0)) := by
  rw [zsh_99]
  rfl
theorem xz_100 (ha : ∀ k, k < 309 → zad G k = b0 + xoff k) : zcell G (xh0 L xs 100) (zsh 100) = .inl (G.2.2.1, 1809, .inl (fun _ => nI 0)) := by
  rw [zsh_100]
  rfl
theorem xz_101 (ha : ∀ k, k < 309 → zad G k = b0 + xoff k) : zcell G (xh0 L xs 101) (zsh 101) = .inl (G.2.2.1, 30, .inl (fun _ => nI 0)) := by
  rw [zsh_101]
  rfl
theorem xz_102 (ha : ∀ k, k < 309 → zad G k = b0 + xoff k) : zcell G (xh0 L xs 102) (zsh 102) = .inl (G.2.2.1, 4, .inl (fun _ => nI 0)) := by
  rw [zsh_102]
  rfl
theorem xz_103 (ha : ∀ k, k < 309 → zad G k = b0 + xoff k) : zcell G (xh0 L xs 103) (zsh 103) = .inl (G.2.2.1, 4, .inl (fun _ => nI 0)) := by
  rw [zsh_103]
  rfl
theorem xz_104 (ha : ∀ k, k < 309 → zad G k = b0 + xoff k) : zcell G (xh0 L xs 104) (zsh 104) = .inl (G.2.2.1, 96, .inl (fun _ => nI 0)) := by
  rw [zsh_104]
  rfl
theorem xz_105 (ha : ∀ k, k < 309 → zad G k = b0 + xoff k) : zcell G (xh0 L xs 105) (zsh 105) = .inl (G.2.2.1, 24, .inl (fun _ => nI 0)) := by
  rw [zsh_105]
  rfl
theorem xz_106 (ha : ∀ k, k < 309 → zad G k = b0 + xoff k) : zcell G (xh0 L xs 106) (zsh 106) = .inr (1, [.ref (b0 + 82)]) := by
  rw [zsh_106]
  show (.inr (1, zfs G (xh0 L xs 106) [(1, 107)]) : va_E) = _
  rw [zfs_zfl]
  show (.inr (1, [.ref (zad G 107)]) : va_E) = _
  rw [xa ha (k := 107) (n := 82) (by decide) rfl]
theorem xz_107 (ha : ∀ k, k < 309 → zad G k = b0 + xoff k) : zcell G (xh0 L xs 107) (zsh 107) = .inl (G.2.2.2.1 1, 201, .inr (.inr (.inr (.inr (xrow (b0 + 82) 201))))) := by
  rw [zsh_107]
  have e := xrows (G := G) (sl := [(1, 108), (1, 109), (1, 110), (1, 111), (1, 112), (1, 113), (1, 114), (1, 115), (1, 116), (1, 117), (1, 118), (1, 119), (1, 120), (1, 121), (1, 122), (1, 123), (1, 124), (1, 125), (1, 126), (1, 127), (1, 128), (1, 129), (1, 130), (1, 131), (1, 132), (1, 133), (1, 134), (1, 135), (1, 136), (1, 137), (1, 138), (1, 139), (1, 140), (1, 141), (1, 142), (1, 143), (1, 144), (1, 145), (1, 146), (1, 147), (1, 148), (1, 149), (1, 150), (1, 151), (1, 152), (1, 153), (1, 154), (1, 155), (1, 156), (1, 157), (1, 158), (1, 159), (1, 160), (1, 161), (1, 162), (1, 163), (1, 164), (1, 165), (1, 166), (1, 167), (1, 168), (1, 169), (1, 170), (1, 171), (1, 172), (1, 173), (1, 174), (1, 175), (1, 176), (1, 177), (1, 178), (1, 179), (1, 180), (1, 181), (1, 182), (1, 183), (1, 184), (1, 185), (1, 186), (1, 187), (1, 188), (1, 189), (1, 190), (1, 191), (1, 192), (1, 193), (1, 194), (1, 195), (1, 196), (1, 197), (1, 198), (1, 199), (1, 200), (1, 201), (1, 202), (1, 203), (1, 204), (1, 205), (1, 206), (1, 207), (1, 208), (1, 209), (1, 210), (1, 211), (1, 212), (1, 213), (1, 214), (1, 215), (1, 216), (1, 217), (1, 218), (1, 219), (1, 220), (1, 221), (1, 222), (1, 223), (1, 224), (1, 225), (1, 226), (1, 227), (1, 228), (1, 229), (1, 230), (1, 231), (1, 232), (1, 233), (1, 234), (1, 235), (1, 236), (1, 237), (1, 238), (1, 239), (1, 240), (1, 241), (1, 242), (1, 243), (1, 244), (1, 245), (1, 246), (1, 247), (1, 248), (1, 249), (1, 250), (1, 251), (1, 252), (1, 253), (1, 254), (1, 255), (1, 256), (1, 257), (1, 258), (1, 259), (1, 260), (1, 261), (1, 262), (1, 263), (1, 264), (1, 265), (1, 266), (1, 267), (1, 268), (1, 269), (1, 270), (1, 271), (1, 272), (1, 273), (1, 274), (1, 275), (1, 276), (1, 277), (1, 278), (1, 279), (1, 280), (1, 281), (1, 282), (1, 283), (1, 284), (1, 285), (1, 286), (1, 287), (1, 288), (1, 289), (1, 290), (1, 291), (1, 292), (1, 293), (1, 294), (1, 295), (1, 296), (1, 297), (1, 298), (1, 299), (1, 300), (1, 301), (1, 302), (1, 303), (1, 304), (1, 305), (1, 306), (1, 307), (1, 308)]) (N := 201) (t0 := 108) (a := b0 + 82) rfl (by decide +kernel) fun j hj => by rw [ha _ (by omega)]; unfold xoff; rw [if_neg (by omega), if_neg (by omega)]; omega
  exact congrArg (fun f => (.inl (G.2.2.2.1 1, 201, .inr (.inr (.inr (.inr f)))) : va_E)) e
theorem xy_1 (ha : ∀ k, k < 309 → zad G k = b0 + xoff k) (q : xQ G (b0 + 1) (xc5 G (b0 + 1)) H) : xAt G L xs H 1 := xat q ((xa ha (k := 1) (n := 1) (by decide) rfl).trans (Nat.add_assoc b0 1 0).symm) (xz_1 ha) rfl
theorem xy_2 (ha : ∀ k, k < 309 → zad G k = b0 + xoff k) (q : xQ G (b0 + 1) (xc5 G (b0 + 1)) H) : xAt G L xs H 2 := xat q ((xa ha (k := 2) (n := 2) (by decide) rfl).trans (Nat.add_assoc b0 1 1).symm) (xz_2 ha) rfl
theorem xy_3 (ha : ∀ k, k < 309 → zad G k = b0 + xoff k) (q : xQ G (b0 + 1) (xc5 G (b0 + 1)) H) : xAt G L xs H 3 := xat q ((xa ha (k := 3) (n := 3) (by decide) rfl).trans (Nat.add_assoc b0 1 2).symm) (xz_3 ha) rfl
theorem xy_4 (ha : ∀ k, k < 309 → zad G k = b0 + xoff k) (q : xQ G (b0 + 1) (xc5 G (b0 + 1)) H) : xAt G L xs H 4 := xat q ((xa ha (k := 4) (n := 4) (by decide) rfl).trans (Nat.add_assoc b0 1 3).symm) (xz_4 ha) rfl
theorem xy_5 (ha : ∀ k, k < 309 → zad G k = b0 + xoff k) (q : xQ G (b0 + 1) (xc5 G (b0 + 1)) H) : xAt G L xs H 5 := xat q ((xa ha (k := 5) (n := 5) (by decide) rfl).trans (Nat.add_assoc b0 1 4).symm) (xz_5 ha) rfl
theorem xy_6 (ha : ∀ k, k < 309 → zad G k = b0 + xoff k) (q : xQ G (b0 + 1) (xc5 G (b0 + 1)) H) : xAt G L xs H 6 := xat q ((xa ha (k := 6) (n := 6) (by decide) rfl).trans (Nat.add_assoc b0 1 5).symm) (xz_6 ha) rfl
theorem xy_7 (ha : ∀ k, k < 309 → zad G k = b0 + xoff k) (q : xQ G (b0 + 1) (xc5 G (b0 + 1)) H) : xAt G L xs H 7 := xat q ((xa ha (k := 7) (n := 7) (by decide) rfl).trans (Nat.add_assoc b0 1 6).symm) (xz_7 ha) rfl
theorem xy_8 (ha : ∀ k, k < 309 → zad G k = b0 + xoff k) (q : xQ G (b0 + 1) (xc5 G (b0 + 1)) H) : xAt G L xs H 8 := xat q ((xa ha (k := 8) (n := 8) (by decide) rfl).trans (Nat.add_assoc b0 1 7).symm) (xz_8 ha) rfl
theorem xy_9 (ha : ∀ k, k < 309 → zad G k = b0 + xoff k) (q : xQ G (b0 + 1) (xc5 G (b0 + 1)) H) : xAt G L xs H 9 := xat q ((xa ha (k := 9) (n := 9) (by decide) rfl).trans (Nat.add_assoc b0 1 8).symm) (xz_9 ha) rfl
theorem xy_10 (ha : ∀ k, k < 309 → zad G k = b0 + xoff k) (q : xQ G (b0 + 1) (xc5 G (b0 + 1)) H) : xAt G L xs H 10 := xat q ((xa ha (k := 10) (n := 10) (by decide) rfl).trans (Nat.add_assoc b0 1 9).symm) (xz_10 ha) rfl
theorem xy_11 (ha : ∀ k, k < 309 → zad G k = b0 + xoff k) (q : xQ G (b0 + 1) (xc5 G (b0 + 1)) H) : xAt G L xs H 11 := xat q ((xa ha (k := 11) (n := 11) (by decide) rfl).trans (Nat.add_assoc b0 1 10).symm) (xz_11 ha) rfl
theorem xy_12 (ha : ∀ k, k < 309 → zad G k = b0 + xoff k) (q : xQ G (b0 + 1) (xc5 G (b0 + 1)) H) : xAt G L xs H 12 := xat q ((xa ha (k := 12) (n := 12) (by decide) rfl).trans (Nat.add_assoc b0 1 11).symm) (xz_12 ha) rfl
theorem xy_13 (ha : ∀ k, k < 309 → zad G k = b0 + xoff k) (q : xQ G (b0 + 1) (xc5 G (b0 + 1)) H) : xAt G L xs H 13 := xat q ((xa ha (k := 13) (n := 13) (by decide) rfl).trans (Nat.add_assoc b0 1 12).symm) (xz_13 ha) rfl
theorem xy_14 (ha : ∀ k, k < 309 → zad G k = b0 + xoff k) (q : xQ G (b0 + 1) (xc5 G (b0 + 1)) H) : xAt G L xs H 14 := xat q ((xa ha (k := 14) (n := 14) (by decide) rfl).trans (Nat.add_assoc b0 1 13).symm) (xz_14 ha) rfl
theorem xy_15 (ha : ∀ k, k < 309 → zad G k = b0 + xoff k) (q : xQ G (b0 + 1) (xc5 G (b0 + 1)) H) : xAt G L xs H 15 := xat q ((xa ha (k := 15) (n := 15) (by decide) rfl).trans (Nat.add_assoc b0 1 14).symm) (xz_15 ha) rfl
theorem xy_16 (ha : ∀ k, k < 309 → zad G k = b0 + xoff k) (q : xQ G (b0 + 1) (xc5 G (b0 + 1)) H) : xAt G L xs H 16 := xat q ((xa ha (k := 16) (n := 16) (by decide) rfl).trans (Nat.add_assoc b0 1 15).symm) (xz_16 ha) rfl
theorem xy_17 (ha : ∀ k, k < 309 → zad G k = b0 + xoff k) (q : xQ G (b0 + 1) (xc5 G (b0 + 1)) H) : xAt G L xs H 17 := xat q ((xa ha (k := 17) (n := 17) (by decide) rfl).trans (Nat.add_assoc b0 1 16).symm) (xz_17 ha) rfl
theorem xy_18 (ha : ∀ k, k < 309 → zad G k = b0 + xoff k) (q : xQ G (b0 + 1) (xc5 G (b0 + 1)) H) : xAt G L xs H 18 := xat q ((xa ha (k := 18) (n := 18) (by decide) rfl).trans (Nat.add_assoc b0 1 17).symm) (xz_18 ha) rfl
theorem xy_19 (ha : ∀ k, k < 309 → zad G k = b0 + xoff k) (q : xQ G (b0 + 1) (xc5 G (b0 + 1)) H) : xAt G L xs H 19 := xat q ((xa ha (k := 19) (n := 19) (by decide) rfl).trans (Nat.add_assoc b0 1 18).symm) (xz_19 ha) rfl
theorem xy_20 (ha : ∀ k, k < 309 → zad G k = b0 + xoff k) (q : xQ G (b0 + 1) (xc5 G (b0 + 1)) H) : xAt G L xs H 20 := xat q ((xa ha (k := 20) (n := 20) (by decide) rfl).trans (Nat.add_assoc b0 1 19).symm) (xz_20 ha) rfl
theorem xy_21 (ha : ∀ k, k < 309 → zad G k = b0 + xoff k) (q : xQ G (b0 + 1) (xc5 G (b0 + 1)) H) : xAt G L xs H 21 := xat q ((xa ha (k := 21) (n := 21) (by decide) rfl).trans (Nat.add_assoc b0 1 20).symm) (xz_21 ha) rfl
theorem xy_22 (ha : ∀ k, k < 309 → zad G k = b0 + xoff k) (q : xQ G (b0 + 1) (xc5 G (b0 + 1)) H) : xAt G L xs H 22 := xat q ((xa ha (k := 22) (n := 22) (by decide) rfl).trans (Nat.add_assoc b0 1 21).symm) (xz_22 ha) rfl
theorem xy_23 (ha : ∀ k, k < 309 → zad G k = b0 + xoff k) (q : xQ G (b0 + 1) (xc5 G (b0 + 1)) H) : xAt G L xs H 23 := xat q ((xa ha (k := 23) (n := 23) (by decide) rfl).trans (Nat.add_assoc b0 1 22).symm) (xz_23 ha) rfl
theorem xy_24 (ha : ∀ k, k < 309 → zad G k = b0 + xoff k) (q : xQ G (b0 + 1) (xc5 G (b0 + 1)) H) : xAt G L xs H 24 := xat q ((xa ha (k := 24) (n := 24) (by decide) rfl).trans (Nat.add_assoc b0 1 23).symm) (xz_24 ha) rfl
theorem xy_25 (ha : ∀ k, k < 309 → zad G k = b0 + xoff k) (q : xQ G (b0 + 25) (xc5 G (b0 + 25)) H) : xAt G L xs H 25 := xat q ((xa ha (k := 25) (n := 25) (by decide) rfl).trans (Nat.add_assoc b0 25 0).symm) (xz_25 ha) rfl
theorem xy_26 (ha : ∀ k, k < 309 → zad G k = b0 + xoff k) (q : xQ G (b0 + 25) (xc5 G (b0 + 25)) H) : xAt G L xs H 26 := xat q ((xa ha (k := 26) (n := 26) (by decide) rfl).trans (Nat.add_assoc b0 25 1).symm) (xz_26 ha) rfl
theorem xy_27 (ha : ∀ k, k < 309 → zad G k = b0 + xoff k) (q : xQ G (b0 + 25) (xc5 G (b0 + 25)) H) : xAt G L xs H 27 := xat q ((xa ha (k := 27) (n := 27) (by decide) rfl).trans (Nat.add_assoc b0 25 2).symm) (xz_27 ha) rfl
theorem xy_28 (ha : ∀ k, k < 309 → zad G k = b0 + xoff k) (q : xQ G (b0 + 25) (xc5 G (b0 + 25)) H) : xAt G L xs H 28 := xat q ((xa ha (k := 28) (n := 28) (by decide) rfl).trans (Nat.add_assoc b0 25 3).symm) (xz_28 ha) rfl
theorem xy_29 (ha : ∀ k, k < 309 → zad G k = b0 + xoff k) (q : xQ G (b0 + 25) (xc5 G (b0 + 25)) H) : xAt G L xs H 29 := xat q ((xa ha (k := 29) (n := 29) (by decide) rfl).trans (Nat.add_assoc b0 25 4).symm) (xz_29 ha) rfl
theorem xy_30 (ha : ∀ k, k < 309 → zad G k = b0 + xoff k) (q : xQ G (b0 + 25) (xc5 G (b0 + 25)) H) : xAt G L xs H 30 := xat q ((xa ha (k := 30) (n := 30) (by decide) rfl).trans (Nat.add_assoc b0 25 5).symm) (xz_30 ha) rfl
theorem xy_31 (ha : ∀ k, k < 309 → zad G k = b0 + xoff k) (q : xQ G (b0 + 25) (xc5 G (b0 + 25)) H) : xAt G L xs H 31 := xat q ((xa ha (k := 31) (n := 31) (by decide) rfl).trans (Nat.add_assoc b0 25 6).symm) (xz_31 ha) rfl
theorem xy_32 (ha : ∀ k, k < 309 → zad G k = b0 + xoff k) (q : xQ G (b0 + 25) (xc5 G (b0 + 25)) H) : xAt G L xs H 32 := xat q ((xa ha (k := 32) (n := 32) (by decide) rfl).trans (Nat.add_assoc b0 25 7).symm) (xz_32 ha) rfl
theorem xy_33 (ha : ∀ k, k < 309 → zad G k = b0 + xoff k) (q : xQ G (b0 + 25) (xc5 G (b0 + 25)) H) : xAt G L xs H 33 := xat q ((xa ha (k := 33) (n := 33) (by decide) rfl).trans (Nat.add_assoc b0 25 8).symm) (xz_33 ha) rfl
theorem xy_34 (ha : ∀ k, k < 309 → zad G k = b0 + xoff k) (q : xQ G (b0 + 25) (xc5 G (b0 + 25)) H) : xAt G L xs H 34 := xat q ((xa ha (k := 34) (n := 34) (by decide) rfl).trans (Nat.add_assoc b0 25 9).symm) (xz_34 ha) rfl
theorem xy_35 (ha : ∀ k, k < 309 → zad G k = b0 + xoff k) (q : xQ G (b0 + 25) (xc5 G (b0 + 25)) H) : xAt G L xs H 35 := xat q ((xa ha (k := 35) (n := 35) (by decide) rfl).trans (Nat.add_assoc b0 25 10).symm) (xz_35 ha) rfl
theorem xy_36 (ha : ∀ k, k < 309 → zad G k = b0 + xoff k) (q : xQ G (b0 + 25) (xc5 G (b0 + 25)) H) : xAt G L xs H 36 := xat q ((xa ha (k := 36) (n := 36) (by decide) rfl).trans (Nat.add_assoc b0 25 11).symm) (xz_36 ha) rfl
theorem xy_37 (ha : ∀ k, k < 309 → zad G k = b0 + xoff k) (q : xQ G (b0 + 25) (xc5 G (b0 + 25)) H) : xAt G L xs H 37 := xat q ((xa ha (k := 37) (n := 37) (by decide) rfl).trans (Nat.add_assoc b0 25 12).symm) (xz_37 ha) rfl
theorem xy_38 (ha : ∀ k, k < 309 → zad G k = b0 + xoff k) (q : xQ G (b0 + 25) (xc5 G (b0 + 25)) H) : xAt G L xs H 38 := xat q ((xa ha (k := 38) (n := 38) (by decide) rfl).trans (Nat.add_assoc b0 25 13).symm) (xz_38 ha) rfl
theorem xy_39 (ha : ∀ k, k < 309 → zad G k = b0 + xoff k) (q : xQ G (b0 + 25) (xc5 G (b0 + 25)) H) : xAt G L xs H 39 := xat q ((xa ha (k := 39) (n := 39) (by decide) rfl).trans (Nat.add_assoc b0 25 14).symm) (xz_39 ha) rfl
theorem xy_40 (ha : ∀ k, k < 309 → zad G k = b0 + xoff k) (q : xQ G (b0 + 25) (xc5 G (b0 + 25)) H) : xAt G L xs H 40 := xat q ((xa ha (k := 40) (n := 40) (by decide) rfl).trans (Nat.add_assoc b0 25 15).symm) (xz_40 ha) rfl
theorem xy_41 (ha : ∀ k, k < 309 → zad G k = b0 + xoff k) (q : xQ G (b0 + 25) (xc5 G (b0 + 25)) H) : xAt G L xs H 41 := xat q ((xa ha (k := 41) (n := 41) (by decide) rfl).trans (Nat.add_assoc b0 25 16).symm) (xz_41 ha) rfl
theorem xy_42 (ha : ∀ k, k < 309 → zad G k = b0 + xoff k) (q : xQ G (b0 + 25) (xc5 G (b0 + 25)) H) : xAt G L xs H 42 := xat q ((xa ha (k := 42) (n := 42) (by decide) rfl).trans (Nat.add_assoc b0 25 17).symm) (xz_42 ha) rfl
theorem xy_43 (ha : ∀ k, k < 309 → zad G k = b0 + xoff k) (q : xQ G (b0 + 25) (xc5 G (b0 + 25)) H) : xAt G L xs H 43 := xat q ((xa ha (k := 43) (n := 43) (by decide) rfl).trans (Nat.add_assoc b0 25 18).symm) (xz_43 ha) rfl
theorem xy_44 (ha : ∀ k, k < 309 → zad G k = b0 + xoff k) (q : xQ G (b0 + 25) (xc5 G (b0 + 25)) H) : xAt G L xs H 44 := xat q ((xa ha (k := 44) (n := 44) (by decide) rfl).trans (Nat.add_assoc b0 25 19).symm) (xz_44 ha) rfl
theorem xy_45 (ha : ∀ k, k < 309 → zad G k = b0 + xoff k) (q : xQ G (b0 + 25) (xc5 G (b0 + 25)) H) : xAt G L xs H 45 := xat q ((xa ha (k := 45) (n := 45) (by decide) rfl).trans (Nat.add_assoc b0 25 20).symm) (xz_45 ha) rfl
theorem xy_46 (ha : ∀ k, k < 309 → zad G k = b0 + xoff k) (q : xQ G (b0 + 25) (xc5 G (b0 + 25)) H) : xAt G L xs H 46 := xat q ((xa ha (k := 46) (n := 46) (by decide) rfl).trans (Nat.add_assoc b0 25 21).symm) (xz_46 ha) rfl
theorem xy_47 (ha : ∀ k, k < 309 → zad G k = b0 + xoff k) (q : xQ G (b0 + 25) (xc5 G (b0 + 25)) H) : xAt G L xs H 47 := xat q ((xa ha (k := 47) (n := 47) (by decide) rfl).trans (Nat.add_assoc b0 25 22).symm) (xz_47 ha) rfl
theorem xy_48 (ha : ∀ k, k < 309 → zad G k = b0 + xoff k) (q : xQ G (b0 + 25) (xc5 G (b0 + 25)) H) : xAt G L xs H 48 := xat q ((xa ha (k := 48) (n := 48) (by decide) rfl).trans (Nat.add_assoc b0 25 23).symm) (xz_48 ha) rfl
theorem xy_49 (ha : ∀ k, k < 309 → zad G k = b0 + xoff k) (q : xQ G (b0 + 49) (xc5 G (b0 + 49)) H) : xAt G L xs H 49 := xat q ((xa ha (k := 49) (n := 49) (by decide) rfl).trans (Nat.add_assoc b0 49 0).symm) (xz_49 ha) rfl
theorem xy_50 (ha : ∀ k, k < 309 → zad G k = b0 + xoff k) (q : xQ G (b0 + 49) (xc5 G (b0 + 49)) H) : xAt G L xs H 50 := xat q ((xa ha (k := 50) (n := 50) (by decide) rfl).trans (Nat.add_assoc b0 49 1).symm) (xz_50 ha) rfl
theorem xy_51 (ha : ∀ k, k < 309 → zad G k = b0 + xoff k) (q : xQ G (b0 + 49) (xc5 G (b0 + 49)) H) : xAt G L xs H 51 := xat q ((xa ha (k := 51) (n := 51) (by decide) rfl).trans (Nat.add_assoc b0 49 2).symm) (xz_51 ha) rfl
theorem xy_52 (ha : ∀ k, k < 309 → zad G k = b0 + xoff k) (q : xQ G (b0 + 49) (xc5 G (b0 + 49)) H) : xAt G L xs H 52 := xat q ((xa ha (k := 52) (n := 52) (by decide) rfl).trans (Nat.add_assoc b0 49 3).symm) (xz_52 ha) rfl
theorem xy_53 (ha : ∀ k, k < 309 → zad G k = b0 + xoff k) (q : xQ G (b0 + 49) (xc5 G (b0 + 49)) H) : xAt G L xs H 53 := xat q ((xa ha (k := 53) (n := 53) (by decide) rfl).trans (Nat.add_assoc b0 49 4).symm) (xz_53 ha) rfl
theorem xy_54 (ha : ∀ k, k < 309 → zad G k = b0 + xoff k) (q : xQ G (b0 + 49) (xc5 G (b0 + 49)) H) : xAt G L xs H 54 := xat q ((xa ha (k := 54) (n := 54) (by decide) rfl).trans (Nat.add_assoc b0 49 5).symm) (xz_54 ha) rfl
theorem xy_55 (ha : ∀ k, k < 309 → zad G k = b0 + xoff k) (q : xQ G (b0 + 49) (xc5 G (b0 + 49)) H) : xAt G L xs H 55 := xat q ((xa ha (k := 55) (n := 55) (by decide) rfl).trans (Nat.add_assoc b0 49 6).symm) (xz_55 ha) rfl
theorem xy_56 (ha : ∀ k, k < 309 → zad G k = b0 + xoff k) (q : xQ G (b0 + 49) (xc5 G (b0 + 49)) H) : xAt G L xs H 56 := xat q ((xa ha (k := 56) (n := 56) (by decide) rfl).trans (Nat.add_assoc b0 49 7).symm) (xz_56 ha) rfl
theorem xy_57 (ha : ∀ k, k < 309 → zad G k = b0 + xoff k) (q : xQ G (b0 + 49) (xc5 G (b0 + 49)) H) : xAt G L xs H 57 := xat q ((xa ha (k := 57) (n := 57) (by decide) rfl).trans (Nat.add_assoc b0 49 8).symm) (xz_57 ha) rfl
theorem xy_58 (ha : ∀ k, k < 309 → zad G k = b0 + xoff k) (q : xQ G (b0 + 49) (xc5 G (b0 + 49)) H) : xAt G L xs H 58 := xat q ((xa ha (k := 58) (n := 58) (by decide) rfl).trans (Nat.add_assoc b0 49 9).symm) (xz_58 ha) rfl
theorem xy_59 (ha : ∀ k, k < 309 → zad G k = b0 + xoff k) (q : xQ G (b0 + 49) (xc5 G (b0 + 49)) H) : xAt G L xs H 59 := xat q ((xa ha (k := 59) (n := 59) (by decide) rfl).trans (Nat.add_assoc b0 49 10).symm) (xz_59 ha) rfl
theorem xy_60 (ha : ∀ k, k < 309 → zad G k = b0 + xoff k) (q : xQ G (b0 + 49) (xc5 G (b0 + 49)) H) : xAt G L xs H 60 := xat q ((xa ha (k := 60) (n := 60) (by decide) rfl).trans (Nat.add_assoc b0 49 11).symm) (xz_60 ha) rfl
theorem xy_61 (ha : ∀ k, k < 309 → zad G k = b0 + xoff k) (q : xQ G (b0 + 49) (xc5 G (b0 + 49)) H) : xAt G L xs H 61 := xat q ((xa ha (k := 61) (n := 61) (by decide) rfl).trans (Nat.add_assoc b0 49 12).symm) (xz_61 ha) rfl
theorem xy_62 (ha : ∀ k, k < 309 → zad G k = b0 + xoff k) (q : xQ G (b0 + 49) (xc5 G (b0 + 49)) H) : xAt G L xs H 62 := xat q ((xa ha (k := 62) (n := 62) (by decide) rfl).trans (Nat.add_assoc b0 49 13).symm) (xz_62 ha) rfl
theorem xy_63 (ha : ∀ k, k < 309 → zad G k = b0 + xoff k) (q : xQ G (b0 + 49) (xc5 G (b0 + 49)) H) : xAt G L xs H 63 := xat q ((xa ha (k := 63) (n := 63) (by decide) rfl).trans (Nat.add_assoc b0 49 14).symm) (xz_63 ha) rfl
theorem xy_64 (ha : ∀ k, k < 309 → zad G k = b0 + xoff k) (q : xQ G (b0 + 49) (xc5 G (b0 + 49)) H) : xAt G L xs H 64 := xat q ((xa ha (k := 64) (n := 64) (by decide) rfl).trans (Nat.add_assoc b0 49 15).symm) (xz_64 ha) rfl
theorem xy_65 (ha : ∀ k, k < 309 → zad G k = b0 + xoff k) (q : xQ G (b0 + 49) (xc5 G (b0 + 49)) H) : xAt G L xs H 65 := xat q ((xa ha (k := 65) (n := 65) (by decide) rfl).trans (Nat.add_assoc b0 49 16).symm) (xz_65 ha) rfl
theorem xy_66 (ha : ∀ k, k < 309 → zad G k = b0 + xoff k) (q : xQ G (b0 + 49) (xc5 G (b0 + 49)) H) : xAt G L xs H 66 := xat q ((xa ha (k := 66) (n := 66) (by decide) rfl).trans (Nat.add_assoc b0 49 17).symm) (xz_66 ha) rfl
theorem xy_67 (ha : ∀ k, k < 309 → zad G k = b0 + xoff k) (q : xQ G (b0 + 49) (xc5 G (b0 + 49)) H) : xAt G L xs H 67 := xat q ((xa ha (k := 67) (n := 67) (by decide) rfl).trans (Nat.add_assoc b0 49 18).symm) (xz_67 ha) rfl
theorem xy_68 (ha : ∀ k, k < 309 → zad G k = b0 + xoff k) (q : xQ G (b0 + 49) (xc5 G (b0 + 49)) H) : xAt G L xs H 68 := xat q ((xa ha (k := 68) (n := 68) (by decide) rfl).trans (Nat.add_assoc b0 49 19).symm) (xz_68 ha) rfl
theorem xy_69 (ha : ∀ k, k < 309 → zad G k = b0 + xoff k) (q : xQ G (b0 + 49) (xc5 G (b0 + 49)) H) : xAt G L xs H 69 := xat q ((xa ha (k := 69) (n := 69) (by decide) rfl).trans (Nat.add_assoc b0 49 20).symm) (xz_69 ha) rfl
theorem xy_70 (ha : ∀ k, k < 309 → zad G k = b0 + xoff k) (q : xQ G (b0 + 49) (xc5 G (b0 + 49)) H) : xAt G L xs H 70 := xat q ((xa ha (k := 70) (n := 70) (by decide) rfl).trans (Nat.add_assoc b0 49 21).symm) (xz_70 ha) rfl
theorem xy_71 (ha : ∀ k, k < 309 → zad G k = b0 + xoff k) (q : xQ G (b0 + 49) (xc5 G (b0 + 49)) H) : xAt G L xs H 71 := xat q ((xa ha (k := 71) (n := 71) (by decide) rfl).trans (Nat.add_assoc b0 49 22).symm) (xz_71 ha) rfl
theorem xy_72 (ha : ∀ k, k < 309 → zad G k = b0 + xoff k) (q : xQ G (b0 + 49) (xc5 G (b0 + 49)) H) : xAt G L xs H 72 := xat q ((xa ha (k := 72) (n := 72) (by decide) rfl).trans (Nat.add_assoc b0 49 23).symm) (xz_72 ha) rfl
theorem xy_73 (ha : ∀ k, k < 309 → zad G k = b0 + xoff k) (q : xQ G (b0 + 73) (xc0 G (b0 + 73)) H) : xAt G L xs H 73 := xat q ((xa ha (k := 73) (n := 73) (by decide) rfl).trans (Nat.add_assoc b0 73 0).symm) (xz_73 ha) rfl
theorem xy_74 (ha : ∀ k, k < 309 → zad G k = b0 + xoff k) (q : xQ G (b0 + 73) (xc0 G (b0 + 73)) H) : xAt G L xs H 74 := xat q ((xa ha (k := 74) (n := 74) (by decide) rfl).trans (Nat.add_assoc b0 73 1).symm) (xz_74 ha) rfl
theorem xy_75 (ha : ∀ k, k < 309 → zad G k = b0 + xoff k) (q : xQ G (b0 + 73) (xc0 G (b0 + 73)) H) : xAt G L xs H 75 := xat q ((xa ha (k := 75) (n := 75) (by decide) rfl).trans (Nat.add_assoc b0 73 2).symm) (xz_75 ha) rfl
theorem xy_76 (ha : ∀ k, k < 309 → zad G k = b0 + xoff k) (q : xQ G (b0 + 73) (xc0 G (b0 + 73)) H) : xAt G L xs H 76 := xat q ((xa ha (k := 76) (n := 76) (by decide) rfl).trans (Nat.add_assoc b0 73 3).symm) (xz_76 ha) rfl
theorem xy_77 (ha : ∀ k, k < 309 → zad G k = b0 + xoff k) (q : xQ G (b0 + 73) (xc0 G (b0 + 73)) H) : xAt G L xs H 77 := xat q ((xa ha (k := 77) (n := 77) (by decide) rfl).trans (Nat.add_assoc b0 73 4).symm) (xz_77 ha) rfl
theorem xy_78 (ha : ∀ k, k < 309 → zad G k = b0 + xoff k) (q : xQ G (b0 + 73) (xc0 G (b0 + 73)) H) : xAt G L xs H 78 := xat q ((xa ha (k := 78) (n := 78) (by decide) rfl).trans (Nat.add_assoc b0 73 5).symm) (xz_78 ha) rfl
theorem xy_79 (ha : ∀ k, k < 309 → zad G k = b0 + xoff k) (q : xQ G (b0 + 79) (xc3 G (b0 + 79)) H) : xAt G L xs H 79 := xat q ((xa ha (k := 79) (n := 79) (by decide) rfl).trans (Nat.add_assoc b0 79 0).symm) (xz_79 ha) rfl
theorem xy_80 (ha : ∀ k, k < 309 → zad G k = b0 + xoff k) (q : xQ G (b0 + 79) (xc3 G (b0 + 79)) H) : xAt G L xs H 80 := xat q ((xa ha (k := 80) (n := 80) (by decide) rfl).trans (Nat.add_assoc b0 79 1).symm) (xz_80 ha) rfl
theorem xy_82 (ha : ∀ k, k < 309 → zad G k = b0 + xoff k) (q : xQ G (b0 + 285) (xc2 G (b0 + 285)) H) : xAt G L xs H 82 := xat q ((xa ha (k := 82) (n := 285) (by decide) rfl).trans (Nat.add_assoc b0 285 0).symm) (xz_82 ha) rfl
theorem xy_83 (ha : ∀ k, k < 309 → zad G k = b0 + xoff k) (q : xQ G (b0 + 285) (xc2 G (b0 + 285)) H) : xAt G L xs H 83 := xat q ((xa ha (k := 83) (n := 286) (by decide) rfl).trans (Nat.add_assoc b0 285 1).symm) (xz_83 ha) rfl
theorem xy_84 (ha : ∀ k, k < 309 → zad G k = b0 + xoff k) (q : xQ G (b0 + 287) (xc2 G (b0 + 287)) H) : xAt G L xs H 84 := xat q ((xa ha (k := 84) (n := 287) (by decide) rfl).trans (Nat.add_assoc b0 287 0).symm) (xz_84 ha) rfl
theorem xy_85 (ha : ∀ k, k < 309 → zad G k = b0 + xoff k) (q : xQ G (b0 + 287) (xc2 G (b0 + 287)) H) : xAt G L xs H 85 := xat q ((xa ha (k := 85) (n := 288) (by decide) rfl).trans (Nat.add_assoc b0 287 1).symm) (xz_85 ha) rfl
theorem xy_86 (ha : ∀ k, k < 309 → zad G k = b0 + xoff k) (q : xQ G (b0 + 289) (xc2 G (b0 + 289)) H) : xAt G L xs H 86 := xat q ((xa ha (k := 86) (n := 289) (by decide) rfl).trans (Nat.add_assoc b0 289 0).symm) (xz_86 ha) rfl
theorem xy_87 (ha : ∀ k, k < 309 → zad G k = b0 + xoff k) (q : xQ G (b0 + 289) (xc2 G (b0 + 289)) H) : xAt G L xs H 87 := xat q ((xa ha (k := 87) (n := 290) (by decide) rfl).trans (Nat.add_assoc b0 289 1).symm) (xz_87 ha) rfl
theorem xy_88 (ha : ∀ k, k < 309 → zad G k = b0 + xoff k) (q : xQ G (b0 + 291) (xc2 G (b0 + 291)) H) : xAt G L xs H 88 := xat q ((xa ha (k := 88) (n := 291) (by decide) rfl).trans (Nat.add_assoc b0 291 0).symm) (xz_88 ha) rfl
theorem xy_89 (ha : ∀ k, k < 309 → zad G k = b0 + xoff k) (q : xQ G (b0 + 291) (xc2 G (b0 + 291)) H) : xAt G L xs H 89 := xat q ((xa ha (k := 89) (n := 292) (by decide) rfl).trans (Nat.add_assoc b0 291 1).symm) (xz_89 ha) rfl
theorem xy_91 (ha : ∀ k, k < 309 → zad G k = b0 + xoff k) (q : xQ G (b0 + 294) (xc7 G (b0 + 294)) H) : xAt G L xs H 91 := xat q ((xa ha (k := 91) (n := 294) (by decide) rfl).trans (Nat.add_assoc b0 294 0).symm) (xz_91 ha) rfl
theorem xy_92 (ha : ∀ k, k < 309 → zad G k = b0 + xoff k) (q : xQ G (b0 + 294) (xc7 G (b0 + 294)) H) : xAt G L xs H 92 := xat q ((xa ha (k := 92) (n := 295) (by decide) rfl).trans (Nat.add_assoc b0 294 1).symm) (xz_92 ha) rfl
theorem xy_93 (ha : ∀ k, k < 309 → zad G k = b0 + xoff k) (q : xQ G (b0 + 294) (xc7 G (b0 + 294)) H) : xAt G L xs H 93 := xat q ((xa ha (k := 93) (n := 296) (by decide) rfl).trans (Nat.add_assoc b0 294 2).symm) (xz_93 ha) rfl
theorem xy_94 (ha : ∀ k, k < 309 → zad G k = b0 + xoff k) (q : xQ G (b0 + 294) (xc7 G (b0 + 294)) H) : xAt G L xs H 94 := xat q ((xa ha (k := 94) (n := 297) (by decide) rfl).trans (Nat.add_assoc b0 294 3).symm) (xz_94 ha) rfl
theorem xy_95 (ha : ∀ k, k < 309 → zad G k = b0 + xoff k) (q : xQ G (b0 + 294) (xc7 G (b0 + 294)) H) : xAt G L xs H 95 := xat q ((xa ha (k := 95) (n := 298) (by decide) rfl).trans (Nat.add_assoc b0 294 4).symm) (xz_95 ha) rfl
theorem xy_96 (ha : ∀ k, k < 309 → zad G k = b0 + xoff k) (q : xQ G (b0 + 294) (xc7 G (b0 + 294)) H) : xAt G L xs H 96 := xat q ((xa ha (k := 96) (n := 299) (by decide) rfl).trans (Nat.add_assoc b0 294 5).symm) (xz_96 ha) rfl
theorem xy_97 (ha : ∀ k, k < 309 → zad G k = b0 + xoff k) (q : xQ G (b0 + 294) (xc7 G (b0 + 294)) H) : xAt G L xs H 97 := xat q ((xa ha (k := 97) (n := 300) (by decide) rfl).trans (Nat.add_assoc b0 294 6).symm) (xz_97 ha) rfl
theorem xy_98 (ha : ∀ k, k < 309 → zad G k = b0 + xoff k) (q : xQ G (b0 + 294) (xc7 G (b0 + 294)) H) : xAt G L xs H 98 := xat q ((xa ha (k := 98) (n := 301) (by decide) rfl).trans (Nat.add_assoc b0 294 7).symm) (xz_98 ha) rfl
theorem xy_99 (ha : ∀ k, k < 309 → zad G k = b0 + xoff k) (q : xQ G (b0 + 294) (xc7 G (b0 + 294)) H) : xAt G L xs H 99 := xat q ((xa ha (k := 99) (n := 302) (by decide) rfl).trans (Nat.add_assoc b0 294 8).symm) (xz_99 ha) rfl
theorem xy_100 (ha : ∀ k, k < 309 → zad G k = b0 + xoff k) (q : xQ G (b0 + 294) (xc7 G (b0 + 294)) H) : xAt G L xs H 100 := xat q ((xa ha (k := 100) (n := 303) (by decide) rfl).trans (Nat.add_assoc b0 294 9).symm) (xz_100 ha) rfl
theorem xy_101 (ha : ∀ k, k < 309 → zad G k = b0 + xoff k) (q : xQ G (b0 + 294) (xc7 G (b0 + 294)) H) : xAt G L xs H 101 := xat q ((xa ha (k := 101) (n := 304) (by decide) rfl).trans (Nat.add_assoc b0 294 10).symm) (xz_101 ha) rfl
theorem xy_102 (ha : ∀ k, k < 309 → zad G k = b0 + xoff k) (q : xQ G (b0 + 294) (xc7 G (b0 + 294)) H) : xAt G L xs H 102 := xat q ((xa ha (k := 102) (n := 305) (by decide) rfl).trans (Nat.add_assoc b0 294 11).symm) (xz_102 ha) rfl
theorem xy_103 (ha : ∀ k, k < 309 → zad G k = b0 + xoff k) (q : xQ G (b0 + 294) (xc7 G (b0 + 294)) H) : xAt G L xs H 103 := xat q ((xa ha (k := 103) (n := 306) (by decide) rfl).trans (Nat.add_assoc b0 294 12).symm) (xz_103 ha) rfl
theorem xy_104 (ha : ∀ k, k < 309 → zad G k = b0 + xoff k) (q : xQ G (b0 + 294) (xc7 G (b0 + 294)) H) : xAt G L xs H 104 := xat q ((xa ha (k := 104) (n := 307) (by decide) rfl).trans (Nat.add_assoc b0 294 13).symm) (xz_104 ha) rfl
theorem xy_105 (ha : ∀ k, k < 309 → zad G k = b0 + xoff k) (q : xQ G (b0 + 294) (xc7 G (b0 + 294)) H) : xAt G L xs H 105 := xat q ((xa ha (k := 105) (n := 308) (by decide) rfl).trans (Nat.add_assoc b0 294 14).symm) (xz_105 ha) rfl
theorem xy_108 (ha : ∀ k, k < 309 → zad G k = b0 + xoff k) (q : xQ G (b0 + 83) (List.replicate 201 (.inl (G.2.2.1, 9, .inl fun _ => nI 0))) H) {j : Nat} (hj : j < 201) : xAt G L xs H (108 + j) := by
  refine xat (i := j) q ?_ ?_ (by rw [List.getElem?_replicate, if_pos hj])
  · rw [ha _ (by omega)]; unfold xoff; rw [if_neg (by omega), if_neg (by omega)]; omega
  · have e1 : ∀ j, j < 201 → (zsh (108 + j)).1 = 0 := by decide +kernel
    have e2 : ∀ j, j < 201 → (zsh (108 + j)).2.1 = 9 := by decide +kernel
    have f : xh0 L xs (108 + j) = fun _ => nI 0 := by
      unfold xh0
      rw [if_neg (by omega), if_neg (by omega), if_neg (by omega), if_neg (by omega), if_neg (by omega), if_neg (by omega), if_neg (by omega), if_neg (by omega), if_neg (by omega), if_neg (by omega)]
    unfold zcell
    rw [if_pos (e1 j hj), e2 j hj, f]
/-- all objects stand as the memory says -/
theorem x_at (ha : ∀ k, k < 309 → zad G k = b0 + xoff k) (h : xQ G b0 (xc6 G b0 ++ xc7 G (b0 + 294)) H) : ∀ k, k < 309 → xAt G L xs H k := by
  obtain ⟨h, p7⟩ := h.app xlen6 rfl
  unfold xc6 at h
  obtain ⟨p0, h⟩ := h.tl rfl
  obtain ⟨pw1, h⟩ := h.app xlen5 (a2 := b0 + 25) (by omega)
  obtain ⟨pw25, h⟩ := h.app xlen5 (a2 := b0 + 49) (by omega)
  obtain ⟨pw49, h⟩ := h.app xlen5 (a2 := b0 + 73) (by omega)
  obtain ⟨pr, h⟩ := h.app xlen0 (a2 := b0 + 79) (by omega)
  obtain ⟨ps, h⟩ := h.app xlen3 (a2 := b0 + 81) (by omega)
  obtain ⟨pu, h⟩ := h.app xlen1 (a2 := b0 + 284) (by omega)
  obtain ⟨p81, h⟩ := h.tl (a2 := b0 + 285) rfl
  obtain ⟨p82, h⟩ := h.app xlen2 (a2 := b0 + 287) (by omega)
  obtain ⟨p84, h⟩ := h.app xlen2 (a2 := b0 + 289) (by omega)
  obtain ⟨p86, h⟩ := h.app xlen2 (a2 := b0 + 291) (by omega)
  obtain ⟨p88, h⟩ := h.app xlen2 (a2 := b0 + 293) (by omega)
  obtain ⟨p90, -⟩ := h.tl rfl
  unfold xc1 at pu
  obtain ⟨p106, pu⟩ := pu.tl (a2 := b0 + 82) rfl
  obtain ⟨p107, pu⟩ := pu.tl (a2 := b0 + 83) rfl
  have y0 : xAt G L xs H 0 := by unfold xAt; rw [xz_0 ha, xa ha (k := 0) (n := 0) (by decide) rfl]; exact p0
  have y81 : xAt G L xs H 81 := by unfold xAt; rw [xz_81 ha, xa ha (k := 81) (n := 284) (by decide) rfl]; exact p81
  have y90 : xAt G L xs H 90 := by unfold xAt; rw [xz_90 ha, xa ha (k := 90) (n := 293) (by decide) rfl]; exact p90
  have y106 : xAt G L xs H 106 := by unfold xAt; rw [xz_106 ha, xa ha (k := 106) (n := 81) (by decide) rfl]; exact p106
  have y107 : xAt G L xs H 107 := by unfold xAt; rw [xz_107 ha, xa ha (k := 107) (n := 82) (by decide) rfl]; exact p107
  have c0 : ∀ k, k < 27 → xAt G L xs H k := lt_s (lt_s (lt_s (lt_s (lt_s (lt_s (lt_s (lt_s (lt_s (lt_s (lt_s (lt_s (lt_s (lt_s (lt_s (lt_s (lt_s (lt_s (lt_s (lt_s (lt_s (lt_s (lt_s (lt_s (lt_s (lt_s (lt_s (lt_0) (y0)) (xy_1 ha pw1)) (xy_2 ha pw1)) (xy_3 ha pw1)) (xy_4 ha pw1)) (xy_5 ha pw1)) (xy_6 ha pw1)) (xy_7 ha pw1)) (xy_8 ha pw1)) (xy_9 ha pw1)) (xy_10 ha pw1)) (xy_11 ha pw1)) (xy_12 ha pw1)) (xy_13 ha pw1)) (xy_14 ha pw1)) (xy_15 ha pw1)) (xy_16 ha pw1)) (xy_17 ha pw1)) (xy_18 ha pw1)) (xy_19 ha pw1)) (xy_20 ha pw1)) (xy_21 ha pw1)) (xy_22 ha pw1)) (xy_23 ha pw1)) (xy_24 ha pw1)) (xy_25 ha pw25)) (xy_26 ha pw25)
  have c27 : ∀ k, k < 54 → xAt G L xs H k := lt_s (lt_s (lt_s (lt_s (lt_s (lt_s (lt_s (lt_s (lt_s (lt_s (lt_s (lt_s (lt_s (lt_s (lt_s (lt_s (lt_s (lt_s (lt_s (lt_s (lt_s (lt_s (lt_s (lt_s (lt_s (lt_s (lt_s (c0) (xy_27 ha pw25)) (xy_28 ha pw25)) (xy_29 ha pw25)) (xy_30 ha pw25)) (xy_31 ha pw25)) (xy_32 ha pw25)) (xy_33 ha pw25)) (xy_34 ha pw25)) (xy_35 ha pw25)) (xy_36 ha pw25)) (xy_37 ha pw25)) (xy_38 ha pw25)) (xy_39 ha pw25)) (xy_40 ha pw25)) (xy_41 ha pw25)) (xy_42 ha pw25)) (xy_43 ha pw25)) (xy_44 ha pw25)) (xy_45 ha pw25)) (xy_46 ha pw25)) (xy_47 ha pw25)) (xy_48 ha pw25)) (xy_49 ha pw49)) (xy_50 ha pw49)) (xy_51 ha pw49)) (xy_52 ha pw49)) (xy_53 ha pw49)
  have c54 : ∀ k, k < 81 → xAt G L xs H k := lt_s (lt_s (lt_s (lt_s (lt_s (lt_s (lt_s (lt_s (lt_s (lt_s (lt_s (lt_s (lt_s (lt_s (lt_s (lt_s (lt_s (lt_s (lt_s (lt_s (lt_s (lt_s (lt_s (lt_s (lt_s (lt_s (lt_s (c27) (xy_54 ha pw49)) (xy_55 ha pw49)) (xy_56 ha pw49)) (xy_57 ha pw49)) (xy_58 ha pw49)) (xy_59 ha pw49)) (xy_60 ha pw49)) (xy_61 ha pw49)) (xy_62 ha pw49)) (xy_63 ha pw49)) (xy_64 ha pw49)) (xy_65 ha pw49)) (xy_66 ha pw49)) (xy_67 ha pw49)) (xy_68 ha pw49)) (xy_69 ha pw49)) (xy_70 ha pw49)) (xy_71 ha pw49)) (xy_72 ha pw49)) (xy_73 ha pr)) (xy_74 ha pr)) (xy_75 ha pr)) (xy_76 ha pr)) (xy_77 ha pr)) (xy_78 ha pr)) (xy_79 ha ps)) (xy_80 ha ps)
  have c81 : ∀ k, k < 108 → xAt G L xs H k := lt_s (lt_s (lt_s (lt_s (lt_s (lt_s (lt_s (lt_s (lt_s (lt_s (lt_s (lt_s (lt_s (lt_s (lt_s (lt_s (lt_s (lt_s (lt_s (lt_s (lt_s (lt_s (lt_s (lt_s (lt_s (lt_s (lt_s (c54) (y81)) (xy_82 ha p82)) (xy_83 ha p82)) (xy_84 ha p84)) (xy_85 ha p84)) (xy_86 ha p86)) (xy_87 ha p86)) (xy_88 ha p88)) (xy_89 ha p88)) (y90)) (xy_91 ha p7)) (xy_92 ha p7)) (xy_93 ha p7)) (xy_94 ha p7)) (xy_95 ha p7)) (xy_96 ha p7)) (xy_97 ha p7)) (xy_98 ha p7)) (xy_99 ha p7)) (xy_100 ha p7)) (xy_101 ha p7)) (xy_102 ha p7)) (xy_103 ha p7)) (xy_104 ha p7)) (xy_105 ha p7)) (y106)) (y107)
  intro k hk
  rcases Nat.lt_or_ge k 108 with q | q
  · exact c81 k q
  · obtain ⟨j, rfl⟩ : ∃ j, k = 108 + j := ⟨k - 108, by omega⟩
    exact xy_108 ha pu (by omega)
theorem x_ws (y : ∀ k, k < 309 → xAt G L xs H k) : va_P (zD G) vwCl (zws G (xh0 L xs)) H := by
  intro i q hq
  unfold zws at hq
  rw [List.getElem?_map] at hq
  have hi : i < 309 := by
    refine Nat.lt_of_not_le fun z => ?_
    rw [List.getElem?_eq_none (by rw [List.length_range]; exact z)] at hq
    cases hq
  rw [List.getElem?_range hi] at hq
  cases hq
  exact y i hi
end XZ
theorem xh0_X {L : Nat} {xs : Nat → Int32} (hL : L ≤ 3072) : zX L xs (xh0 L xs) := ⟨fun j _ => rfl, rfl, hL⟩
theorem xh0_0 {L : Nat} {xs : Nat → Int32} {a : Nat} (h : a ≠ 1 ∧ a ≠ 3 ∧ a ≠ 25 ∧ a ≠ 27 ∧ a ≠ 49 ∧ a ≠ 51 ∧ a ≠ 73 ∧ a ≠ 92 ∧ a ≠ 313 ∧ a ≠ 400) : xh0 L xs a = fun _ => nI 0 := by
  unfold xh0
  rw [if_neg (by omega), if_neg (by omega), if_neg (by omega), if_neg (by omega), if_neg (by omega), if_neg (by omega), if_neg (by omega), if_neg (by omega), if_neg (by omega), if_neg (by omega)]
theorem xh0_92 {L : Nat} {xs : Nat → Int32} {i : Nat} (h : i ≠ 1 ∧ i ≠ 5 ∧ i ≠ 7) : xh0 L xs 92 i = nI 0 := by
  have e7 : (nI 7).toNatClampNeg = 7 := by decide
  have e5 : (nI 5).toNatClampNeg = 5 := by decide
  have e1 : (nI 1).toNatClampNeg = 1 := by decide
  show (upd ((upd ((upd (fun _ => nI 0) (nI 1).toNatClampNeg (nI 44))) (nI 5).toNatClampNeg (nI 1))) (nI 7).toNatClampNeg (nI 3)) i = nI 0
  rw [e7, e5, e1]
  unfold upd
  rw [if_neg h.2.2, if_neg h.2.1, if_neg h.1]
/-- at the start class and reference stand alike -/
theorem xh0_Rel {L : Nat} {xs : Nat → Int32} : Rel (xh0 L xs) := by
  have z : ∀ i, i ≠ 1 ∧ i ≠ 5 ∧ i ≠ 7 → xh0 L xs 92 i = nI 0 := fun i h => xh0_92 h
  have o : ∀ a, a ≠ 1 ∧ a ≠ 3 ∧ a ≠ 25 ∧ a ≠ 27 ∧ a ≠ 49 ∧ a ≠ 51 ∧ a ≠ 73 ∧ a ≠ 92 ∧ a ≠ 313 ∧ a ≠ 400 → ∀ i, xh0 L xs a i = nI 0 := fun a h i => by rw [xh0_0 h]
  have tn : ∀ u, u < 2 → ztx (xh0 L xs 92) u = [] := fun u hu => (ztx_nil (n := 0) (z (154 + 125 * u) (by omega)) (by decide)).mpr rfl
  have rt : ∀ t u (ix : Int32 → Nat), (t = 13 ∨ t = 17) → u < 2 → zRT (xh0 L xs) t ix (ztx (xh0 L xs 92) u) := fun t u ix ht hu => by
    rw [tn u hu]
    exact ⟨by rw [if_pos rfl]; exact o t (by omega) 4, o t (by omega) 3, Nat.zero_le _, fun j q e => by cases e⟩
  refine ⟨⟨0, 44, ⟨z 0 (by decide), by decide, rfl, by decide, fun k hk => ⟨0, 0, 0, 0, 0, 0, 0, by decide, by decide, by decide, by decide, by decide, by decide, by decide, z _ (by omega), z _ (by omega), z _ (by omega), z _ (by omega), z _ (by omega), z _ (by omega), z _ (by omega)⟩, ⟨0, by decide, z _ (by decide), Or.inl rfl⟩, ⟨0, by decide, z _ (by decide), Or.inl rfl⟩⟩, ⟨3, by decide, rfl⟩, ⟨0, by decide, z 3 (by decide)⟩, ⟨0, by decide, z 4 (by decide)⟩, fun i hi => ⟨0, by decide, z _ (by omega)⟩⟩, ⟨fun c hc => ?_, fun j hj => ?_, fun k hk j hj => ?_, ⟨rfl, rfl, rfl, rfl, rfl, rfl⟩, fun i hi => ?_, fun i hi => ?_, rt 13 0 zix0 (by decide) (by decide), rt 17 1 zix1 (by decide) (by decide)⟩, fun k hk => ?_, ⟨rfl, Or.inl rfl⟩, ⟨0, by decide, rfl, rfl, fun i hi => absurd hi (Nat.not_lt_zero i)⟩, fun k hk => ⟨⟨0, by decide, ?_, ?_⟩, ?_, Or.inl ?_, fun i hi => ?_⟩⟩
  · rw [o 2 (by decide), z _ (by omega)]
  · match j, hj with
    | 0, _ => rfl
    | 1, _ => rfl
    | 2, _ => rfl
  · rw [o _ (by omega), z _ (by omega)]
  · rw [o 23 (by decide), z _ (by omega)]
  · rw [o 24 (by decide), z _ (by omega)]
  · rw [o 90 (by decide), o 95 (by decide)]
  · rw [o _ (by omega)]
  · rw [o 103 (by decide)]
  · rw [o _ (by omega), o 102 (by decide)]
  · rw [o 102 (by decide)]
  · rw [o _ (by omega), o 104 (by decide)]
