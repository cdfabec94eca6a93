/-! ===== the law from its entry ===== -/
theorem y_body {G : zG} {L : Nat} {xs : Nat → Int32} {p : Program} {l : Launch} {e : Env} {R : Room} {s : State} {m : MethodId} {args : Array Value} {below : List Frame} {meth : Method} {c : Code} {cells slots : Nat} {Q : State → Prop} {d : Nat} (C : zCtx G L xs (zy 215).cls (zcode 215) (znl 215) (zret 215) p s m args meth c) (X : zRm d R cells slots) {P : zU → Prop} (hR : ∀ o, P o → zRO G L xs (zcode 215) (zret 215) p l e R s m args below meth c cells slots Q o.1 o.2) {pc : Nat} {lo : zL} {st : List Value} {h : zH} (y : yR d L xs P pc lo st h) : zGW G L xs (znl 215) p l e R s m args below meth c cells slots Q pc lo st h := by
  refine y (fun pc lo st h => zGW G L xs (znl 215) p l e R s m args below meth c cells slots Q pc lo st h) ?_
  intro pc lo st h z
  cases ht : zT 215 pc lo st h with
  | none => rw [ht] at z; exact z.elim
  | some r =>
    rw [ht] at z
    refine zOA G L xs 215 (by decide) pc p l e R s m args below meth c cells slots Q d C X lo st h r ht ?_
    rcases r with ⟨pc', lo', st', h'⟩ | o | ⟨k2, as, pc', lo', st', h'⟩
    · exact z
    · exact hR o z
    · obtain ⟨r, h2, c2, n⟩ := z
      obtain ⟨f, c3⟩ := zCf_iff.mp c2
      exact ⟨r, h2, z_all l _ _ _ _ _ _ _ c3, fun ls H locs a1 a2 a3 a4 a5 => n a5 ls H locs a1 a2 a3 a4 a5⟩
theorem xw_astore {G : zG} {b b1 : Nat} {own : String} {cc : ByteArray} {nL : Nat} {p : Program} {l : Launch} {e : Env} {R : Room} {s : State} {m : MethodId} {args : Array Value} {below : List Frame} {meth : Method} {c : Code} {Q : State → Prop} {pc : Nat} {ls : Array Slot} {rest : List Value} {cs : List va_E} {cells slots : Nat} (C : xC G b b1 own cc nL p s m args meth c) {k : Fin 4} {i x : Nat} {lv lv' : List (Nat × Value)} (hdg : decode cc pc = .ok (.astore_n k, 1)) (hi : (k : Nat) = i) (hl : lv_has ls nL lv) (hk : i < nL) (he : (i, .ref x) :: lv.filter (fun q => !(q.1 == i) && !(q.1 + 1 == i && q.2.category == 2)) = lv') (kk : ∀ ls', lv_has ls' nL lv' → xW G b1 p l e R s m args below meth c Q (pc + 1) ls' rest cs cells slots) : xW G b1 p l e R s m args below meth c Q pc ls (.ref x :: rest) cs cells slots :=
  fun H locs hP hS => lv_astore_n (lv' := lv') C.hx C.hb hdg hi hl hk he fun ls' hl' => kk ls' hl' H locs hP hS
theorem xP.Q {G : zG} {b : Nat} {cs : List va_E} {H : Heap} (h : xP G b cs H) : xQ G b cs H := h.2
set_option maxHeartbeats 4000000 in
set_option maxRecDepth 20000 in
theorem whole_start {p : Program} {e : Env} {s : State} {m : MethodId} {below : List Frame} {meth : Method} {c : Code} (l : Launch) (hflags : l.flags = flags0) {b L : Nat} {xs : Nat → Int32} (hL : L ≤ 3072) (C0 : lw_At p s m meth c b L xs) : W p l e room_1 s m #[Value.ref b] below meth c s.heap [] 0 0 (lw_Z below #[Value.ref b] s) (entryFrame m ([Value.ref b] : List Value).toArray 4) := by
  obtain ⟨hx, hb, hr, hml, hown, hts, hX, hbl, hlocks, hgv⟩ := id C0
  obtain ⟨dC, dI, cI, cA, ot, hK, hF, hO, h13⟩ := x_world hts hgv hX hbl
  have ha : ∀ k, k < 309 → zad (xG dC dI cI cA s.heap.size ot) k = s.heap.size + xoff k := fun k hk => xG_lo hk
  have e13 : zad (xG dC dI cI cA s.heap.size ot) 313 = b := (xG_hi (by decide)).trans h13
  generalize xG dC dI cI cA s.heap.size ot = G at hK hF hO ha e13
  have hJ : zinj G := fun i j hi hj q => xoff_inj i j hi hj (by rw [ha i hi, ha j hj] at q; omega)
  have hsub : ∀ q, zA G q → s.heap.size ≤ q := by
    rintro q ⟨k, hk, rfl⟩
    rw [ha k hk]
    exact Nat.le_add_right _ _
  have C : xC G s.heap.size s.heap.size "LoudMarketLaw" code 4 p s m #[Value.ref b] meth c := ⟨hx, hb, hml, hown, fun w hw => hts w (List.mem_filter.mp hw).1, hK, hF, Nat.le_refl _, Nat.le_refl _, hlocks⟩
  have CZ : zCtx G L xs (zy 215).cls (zcode 215) (znl 215) (zret 215) p s m #[Value.ref b] meth c := ⟨hx, hb, hml, hown, fun w hw => hts w (List.mem_filter.mp hw).1, hK, hO, hJ, hr, hlocks⟩
  have hl := lv_entry ([.ref b]) (n := 4) (Nat.le_of_ble_eq_true rfl)
  rw [lg_entry_eq]
  generalize (lg_sl ([.ref b]) ++ List.replicate (4 - (lg_sl ([.ref b])).length) Slot.unset).toArray = ls at hl ⊢
  have hl : lv_has ls 4 [(0, .ref b)] := hl
  have main : xW G s.heap.size p l e room_1 s m #[Value.ref b] below meth c (lw_Z below #[Value.ref b] s) 0 ls [] [] 0 0 := by
    refine xw_new C (ci := 6) tyX6 tyX6_ok zing_X6 rfl (zmem (List.mem_append_left _ (List.mem_of_getElem? (i := 16) rfl)) rfl) (zmem (List.mem_append_left _ (List.mem_of_getElem? (i := 17) rfl)) rfl) (zmem (List.mem_append_left _ (List.mem_of_getElem? (i := 1) rfl)) rfl) (fs := [.null, .null, .null, .null, .null, .null, .null, .null, .int (nI 0)]) xfs_6 (Nat.le_of_ble_eq_true rfl) (Nat.le_of_ble_eq_true rfl) (by decide +kernel : decode code 0 = .ok (.new 7, 3)) (n := 0) (by simp only [List.length_cons, List.length_append, List.length_nil, List.length_replicate, xlen6, xlen7, Nat.add_zero, Nat.zero_add]) (cs' := [.inr (6, [.null, .null, .null, .null, .null, .null, .null, .null, .int (nI 0)])]) (by simp only [List.cons_append, List.append_assoc, List.nil_append, List.append_nil, Nat.add_zero]) ?_
    refine xw_dup C (by decide +kernel : decode code 3 = .ok (.dup, 1)) rfl ?_
    refine xw_callI C (x_6 l) (zmem (List.mem_append_left _ (List.mem_of_getElem? (i := 18) rfl)) rfl) (zmem (List.mem_append_left _ (List.mem_of_getElem? (i := 20) rfl)) rfl) (zmem (List.mem_append_left _ (List.mem_of_getElem? (i := 1) rfl)) rfl) (zmem (List.mem_append_left _ (List.mem_of_getElem? (i := 19) rfl)) rfl) rfl (by decide +kernel) ⟨Nat.le_of_ble_eq_true rfl, Nat.le_of_ble_eq_true rfl⟩ hl.1 (Nat.le_of_ble_eq_true rfl) (by decide +kernel : decode code 4 = .ok (.invokespecial 9, 3)) ⟨Nat.le_of_ble_eq_true rfl, Nat.le_of_ble_eq_true rfl⟩ (l1 := []) (by simp only [List.cons_append, List.append_assoc, List.nil_append, List.append_nil, Nat.add_zero]) (by simp only [List.length_cons, List.length_append, List.length_nil, List.length_replicate, xlen6, xlen7, Nat.add_zero, Nat.zero_add]) (cs' := xc6 G s.heap.size) (by simp only [List.cons_append, List.append_assoc, List.nil_append, List.append_nil, Nat.add_zero]) ?_
    refine xw_astore C (i := 1) (by decide +kernel : decode code 7 = .ok (.astore_n 1, 1)) rfl hl (by decide) (lv' := [(1, .ref s.heap.size), (0, .ref b)]) rfl fun ls hl => ?_
    refine xw_new C (ci := 7) tyX7 tyX7_ok zing_X7 rfl (zmem (List.mem_append_right _ (List.mem_append_right _ (List.mem_append_right _ (List.mem_append_left _ (List.mem_of_getElem? (i := 60) rfl))))) rfl) (zmem (List.mem_append_right _ (List.mem_append_right _ (List.mem_append_right _ (List.mem_append_left _ (List.mem_of_getElem? (i := 61) rfl))))) rfl) (zmem (List.mem_append_left _ (List.mem_of_getElem? (i := 9) rfl)) rfl) (fs := [.null, .null, .null, .int (nI 0), .null, .int (nI 0), .int (nI 0), .int (nI 0), .int (nI 0), .null, .null, .null, .null, .null, .null, .int (nI 0), .int (nI 0), .int (nI 0), .null, .null, .null, .null]) xfs_7 (Nat.le_of_ble_eq_true rfl) (Nat.le_of_ble_eq_true rfl) (by decide +kernel : decode code 8 = .ok (.new 10, 3)) (n := 294) (by simp only [List.length_cons, List.length_append, List.length_nil, List.length_replicate, xlen6, xlen7, Nat.add_zero, Nat.zero_add]) (cs' := xc6 G s.heap.size ++ [.inr (7, [.null, .null, .null, .int (nI 0), .null, .int (nI 0), .int (nI 0), .int (nI 0), .int (nI 0), .null, .null, .null, .null, .null, .null, .int (nI 0), .int (nI 0), .int (nI 0), .null, .null, .null, .null])]) (by simp only [List.cons_append, List.append_assoc, List.nil_append, List.append_nil, Nat.add_zero]) ?_
    refine xw_dup C (by decide +kernel : decode code 11 = .ok (.dup, 1)) rfl ?_
    refine xw_callI C (x_7 l) (zmem (List.mem_append_right _ (List.mem_append_right _ (List.mem_append_right _ (List.mem_append_left _ (List.mem_of_getElem? (i := 62) rfl))))) rfl) (zmem (List.mem_append_right _ (List.mem_append_right _ (List.mem_append_right _ (List.mem_append_left _ (List.mem_of_getElem? (i := 64) rfl))))) rfl) (zmem (List.mem_append_left _ (List.mem_of_getElem? (i := 9) rfl)) rfl) (zmem (List.mem_append_right _ (List.mem_append_right _ (List.mem_append_right _ (List.mem_append_left _ (List.mem_of_getElem? (i := 63) rfl))))) rfl) rfl (by decide +kernel) ⟨Nat.le_of_ble_eq_true rfl, Nat.le_of_ble_eq_true rfl⟩ hl.1 (Nat.le_of_ble_eq_true rfl) (by decide +kernel : decode code 12 = .ok (.invokespecial 12, 3)) ⟨Nat.le_of_ble_eq_true rfl, Nat.le_of_ble_eq_true rfl⟩ (l1 := xc6 G s.heap.size) (by simp only [List.cons_append, List.append_assoc, List.nil_append, List.append_nil, Nat.add_zero]) (by simp only [List.length_cons, List.length_append, List.length_nil, List.length_replicate, xlen6, xlen7, Nat.add_zero, Nat.zero_add]) (cs' := xc6 G s.heap.size ++ xc7 G (s.heap.size + 294)) (by simp only [List.cons_append, List.append_assoc, List.nil_append, List.append_nil, Nat.add_zero]) ?_
    refine xw_astore C (i := 2) (by decide +kernel : decode code 15 = .ok (.astore_n 2, 1)) rfl hl (by decide) (lv' := [(2, .ref (s.heap.size + 294)), (1, .ref s.heap.size), (0, .ref b)]) rfl fun ls hl => ?_
    intro H locs hP hS
    refine va_forget (fun q hq => hS.2.2 q hq) ?_
    refine W.widen (k := 600000) (n := 7302250) (Nat.le_of_ble_eq_true rfl) (Nat.le_of_ble_eq_true rfl) ?_
    have e0 : zad G 0 = s.heap.size := ha 0 (by decide)
    have e91 : zad G 91 = s.heap.size + 294 := ha 91 (by decide)
    have y := law_all (d := 40) (L := L) (xs := xs) hL (xh0_X hL) (xh0_Rel (L := L) (xs := xs))
    refine y_body (d := 100) (cells := 600000) (slots := 7302250) CZ ⟨Nat.le_of_ble_eq_true rfl, Nat.le_of_ble_eq_true rfl, Nat.le_refl _, Nat.le_refl _⟩ (fun o ho => ?_) y ls H [] ?_ rfl (x_ws (x_at ha hP.Q)) ⟨hS.1, fun q h1 h2 => hS.2.1 q h1 (Nat.not_le.mpr h1), fun q hq => by cases hq⟩ (xh0_X hL)
    · intro ls H locs pc st hz hP hS hX
      rcases hz with ⟨-, -, h3, -⟩ | ⟨x, ty, hdg, -, -, h3, rfl⟩ | ⟨k9, ty, -, -, -, h3, -⟩
      · rw [ho] at h3; cases h3
      · rw [ho] at h3
        cases h3
        exact va_forget (fun q hq => hsub _ (hS.2.2 q hq)) (lw_ret hx hb hr hlocks hdg)
      · rw [ho] at h3; cases h3
    · have z : zls G [.ref 313, .ref 0, .ref 91, .null] = [(0, .ref (zad G 313)), (1, .ref (zad G 0)), (2, .ref (zad G 91))] := rfl
      rw [z, e13, e0, e91]
      exact lv_sub hl [2, 1, 0] rfl
  exact main s.heap [] ⟨rfl, fun i x h => by cases h⟩ va_S.rf
