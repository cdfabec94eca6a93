/-! ===== one instruction, on the heap ===== -/
theorem zsl_len : zsl.length = 332 := by decide +kernel
theorem zs_out (a : Nat) (h : 332 ≤ a) : zsh a = (9, 0, [], []) := by
  unfold zsh
  rw [List.getD_eq_getElem?_getD, List.getElem?_eq_none (by rw [zsl_len]; exact h)]
  rfl
theorem zs_lt {a k : Nat} (h : (zsh a).1 = k) (hk : k < 9) : a < 332 := by
  rcases Nat.lt_or_ge a 332 with q | q
  · exact q
  · rw [zs_out a q] at h
    have h : 9 = k := h
    omega
theorem zs_k3' : ∀ a, a < 332 → (zsh a).1 = 3 → 309 ≤ a ∧ a ≤ 312 := by decide +kernel
theorem zs_k3 {a : Nat} (h : (zsh a).1 = 3) : 309 ≤ a ∧ a ≤ 312 := zs_k3' a (zs_lt h (by omega)) h
theorem zs_k4' : ∀ a, a < 332 → (zsh a).1 = 4 → (a - 315) / 2 < 9 ∧ a = 315 + 2 * ((a - 315) / 2) ∧ (zsh a).2.2.2 = zbyt.getD ((a - 315) / 2) [] ∧ (zsh a).2.2.2.length = zlen.getD ((a - 315) / 2) 0 := by decide +kernel
theorem zs_k4 {a : Nat} (h : (zsh a).1 = 4) : ∃ i, i < 9 ∧ a = 315 + 2 * i ∧ (zsh a).2.2.2 = zbyt.getD i [] ∧ (zsh a).2.2.2.length = zlen.getD i 0 := ⟨_, zs_k4' a (zs_lt h (by omega)) h⟩
theorem zs_k5' : ∀ a, a < 332 → (zsh a).1 = 5 → (a - 314) / 2 < 9 ∧ a = 314 + 2 * ((a - 314) / 2) ∧ (zsh a).2.1 = 315 + 2 * ((a - 314) / 2) := by decide +kernel
theorem zs_k5 {a : Nat} (h : (zsh a).1 = 5) : ∃ i, i < 9 ∧ a = 314 + 2 * i ∧ (zsh a).2.1 = 315 + 2 * i := ⟨_, zs_k5' a (zs_lt h (by omega)) h⟩
theorem zs_k2' : ∀ a, a < 332 → (zsh a).1 = 2 → (zsh a).2.1 = 1 ∨ (zsh a).2.1 = 2 := by decide +kernel
theorem zs_k2 {a : Nat} (h : (zsh a).1 = 2) : (zsh a).2.1 = 1 ∨ (zsh a).2.1 = 2 := zs_k2' a (zs_lt h (by omega)) h
def zslc (a j : Nat) : Bool := match vwCl[(zsh a).2.1]? with
  | some r => (match (zsh a).2.2.1[j]? with
    | some q => if q.1 = 0 then (r.2.1 j).2.2.1 == "I" && !(r.2.1 j).2.2.2 && Nat.blt j r.2.2 else if q.1 = 2 then (r.2.1 j).2.2.1 == "Z" && !(r.2.1 j).2.2.2 && Nat.blt j r.2.2 else if q.1 = 3 then ((r.2.1 j).2.2.1 == "[I" || (r.2.1 j).2.2.1 == "Ljava/lang/String;") && !(r.2.1 j).2.2.2 && Nat.blt j r.2.2 else Nat.blt j r.2.2
    | none => true)
  | none => false
theorem zslc_ok : ∀ a, a < 309 → (zsh a).1 = 1 → ∀ j, j < (zsh a).2.2.1.length → zslc a j = true := by decide +kernel
theorem zcell_0 {G : zG} {f : Nat → Int32} {s : zS} (h : s.1 = 0) : zcell G f s = .inl (G.2.2.1, (s.2.1, .inl f)) := by
  unfold zcell; rw [if_pos h]
theorem zcell_1 {G : zG} {f : Nat → Int32} {s : zS} (h : s.1 = 1) : zcell G f s = .inr (s.2.1, zfs G f s.2.2.1) := by
  unfold zcell; rw [if_neg (by omega), if_neg (by omega)]
theorem zcell_2 {G : zG} {f : Nat → Int32} {s : zS} (h : s.1 = 2) : zcell G f s = .inl (G.2.2.2.1 s.2.1, (s.2.2.1.length, .inr (.inr (.inr (.inr fun j => (s.2.2.1[j]?).map fun q => zad G q.2))))) := by
  unfold zcell; rw [if_neg (by omega), if_pos h]
theorem zws_get {G : zG} {h : zH} {k : Nat} (hk : k < 309) : (zws G h)[k]? = some (zad G k, zcell G (h k) (zsh k)) := by
  unfold zws
  rw [List.getElem?_map, List.getElem?_range hk]
  rfl
theorem zws_set {G : zG} {h h' : zH} {k : Nat} (hk : k < 309) {e : va_E} (he : zcell G (h' k) (zsh k) = e) (hne : ∀ j, j ≠ k → h' j = h j) : (zws G h).set k (zad G k, e) = zws G h' := by
  apply List.ext_getElem?
  intro j
  by_cases e1 : j = k
  · subst e1
    rw [List.getElem?_set_self (by unfold zws; simp; exact hk), zws_get hk, he]
  · rw [List.getElem?_set_ne (fun z => e1 z.symm)]
    unfold zws
    rw [List.getElem?_map, List.getElem?_map]
    cases hj : (List.range 309)[j]? with
    | none => rfl
    | some i =>
      have hi : i = j := by
        have := List.getElem?_eq_some_iff.mp hj
        obtain ⟨a, b⟩ := this
        simpa using b.symm
      subst hi
      simp only [Option.map_some, hne i e1]
theorem zws_D {G : zG} {h : zH} (hJ : zinj G) : va_D (zA G) (zws G h) := by
  have key : ∀ (k : Nat) (q : Nat × va_E), (zws G h)[k]? = some q → k < 309 ∧ q.1 = zad G k := by
    intro k q hq
    have hk : k < 309 := by
      have := (List.getElem?_eq_some_iff.mp hq).1
      unfold zws at this
      simpa using this
    rw [zws_get hk] at hq
    cases hq
    exact ⟨hk, rfl⟩
  refine ⟨fun i j p q hp hq e => ?_, fun k q hq => ?_⟩
  · obtain ⟨a, b⟩ := key i p hp
    obtain ⟨a', b'⟩ := key j q hq
    exact hJ i j a a' (by rw [← b, ← b']; exact e)
  · obtain ⟨a, b⟩ := key k q hq
    exact ⟨k, a, b.symm⟩
theorem zX_up {L : Nat} {xs : Nat → Int32} {h : zH} {a j : Nat} {x : Int32} (hX : zX L xs h) (ha : a < 309) : zX L xs (zup h a j x) := by
  unfold zX
  rw [zup_row_ne (show (313 : Nat) ≠ a by omega), zup_row_ne (show (400 : Nat) ≠ a by omega)]
  exact hX
theorem zfs_get {G : zG} {f : Nat → Int32} {sl : List (Nat × Nat)} {j : Nat} {q : Nat × Nat} (h : sl[j]? = some q) : (zfs G f sl)[j]? = some (zval G f j q) := by
  unfold zfs
  rw [List.getElem?_mapIdx, h]
  rfl
theorem zt_fv (G : zG) (h : zH) (a j : Nat) (q : Nat × Nat) : zt G (zfv h a j q) = zval G (h a) j q := by
  unfold zfv zval
  split
  · rfl
  · split <;> rfl
theorem zfs_set {G : zG} {f : Nat → Int32} {sl : List (Nat × Nat)} {j : Nat} {q : Nat × Nat} {x : Int32} (h : sl[j]? = some q) : (zfs G f sl).set j (zval G (upd f j x) j q) = zfs G (upd f j x) sl := by
  apply List.ext_getElem?
  intro i
  have hl : j < (zfs G f sl).length := by
    unfold zfs
    rw [List.length_mapIdx]
    exact (List.getElem?_eq_some_iff.mp h).1
  by_cases e : i = j
  · subst e
    rw [List.getElem?_set_self hl, zfs_get h]
  · rw [List.getElem?_set_ne (fun z => e z.symm)]
    unfold zfs
    rw [List.getElem?_mapIdx, List.getElem?_mapIdx]
    cases hs : sl[i]? with
    | none => rfl
    | some w =>
      have hu : upd f j x i = f i := by simp [upd, e]
      simp only [Option.map_some, zval, hu]
theorem zok4_sum {G : zG} {st : List Value} (h : zok4 st = true) : ((st.map (zt G)).map fun v => v.category).sum ≤ 8 := by
  have hc : ∀ v : Value, (zt G v).category ≤ 2 := by
    intro v
    rw [zt_cat]
    rcases lv_cat v with e | e <;> omega
  match st, h with
  | [], _ => simp
  | [a], _ => have := hc a; simp only [List.map_cons, List.map_nil, List.sum_cons, List.sum_nil]; omega
  | [a, b], _ => have := hc a; have := hc b; simp only [List.map_cons, List.map_nil, List.sum_cons, List.sum_nil]; omega
  | [a, b, c], _ => have := hc a; have := hc b; have := hc c; simp only [List.map_cons, List.map_nil, List.sum_cons, List.sum_nil]; omega
  | [a, b, c, d], _ => have := hc a; have := hc b; have := hc c; have := hc d; simp only [List.map_cons, List.map_nil, List.sum_cons, List.sum_nil]; omega
  | _ :: _ :: _ :: _ :: _ :: _, h => simp [zok4] at h
theorem zin_of {i : Int32} {n : Nat} (h1 : 0 ≤ i.toInt) (h2 : i.toInt < (n : Int)) : vp_in i n := vp_in_iff.mpr ⟨h1, h2⟩
section SND2
variable {G : zG} {L : Nat} {xs : Nat → Int32} {own : String} {cc : ByteArray} {nL : Nat} {ret : Option FieldType} {pc : Nat}
theorem s_iaload (hdg : decode cc pc = .ok (.iaload, 1)) : zSnd G L xs own cc nL ret pc (oIald (pc + 1)) := by
  intro p l e R s m args below meth c cells slots Q d C X lo st h r hr hN ls H locs hl hlen hP hS hX
  obtain ⟨hx, hb, hml, hown, hts, hK, hO, hJ, hrt, hlk⟩ := C
  unfold oIald at hr
  cases st with
  | nil => cases hr
  | cons v0 st =>
    cases v0 with
    | int i =>
      cases st with
      | nil => cases hr
      | cons v1 st =>
        cases v1 with
        | ref a =>
          dsimp only at hr
          split at hr
          · rename_i hk
            split at hr
            · rename_i hi
              obtain rfl := Option.some.inj hr
              exact va_iald hx hb hK hP a 0 (by rw [zws_get hk.2, zcell_0 hk.1]) rfl (zin_of hi.1 hi.2) hdg (hN ls H locs hl hlen hP hS hX)
            · cases hr
          · split at hr
            · rename_i hk
              split at hr
              · rename_i hi
                obtain rfl := Option.some.inj hr
                exact va_ti hx hb (hO.2.1 a (zs_k3 hk).1 (zs_k3 hk).2) hS (zin_of hi.1 hi.2) rfl hdg (hN ls H locs hl hlen hP hS hX)
              · cases hr
            · cases hr
        | _ => cases hr
    | _ => cases hr
theorem s_iastore (hdg : decode cc pc = .ok (.iastore, 1)) : zSnd G L xs own cc nL ret pc (oIast (pc + 1)) := by
  intro p l e R s m args below meth c cells slots Q d C X lo st h r hr hN ls H locs hl hlen hP hS hX
  obtain ⟨hx, hb, hml, hown, hts, hK, hO, hJ, hrt, hlk⟩ := C
  unfold oIast at hr
  cases st with
  | nil => cases hr
  | cons v0 st =>
    cases v0 with
    | int x =>
      cases st with
      | nil => cases hr
      | cons v1 st =>
        cases v1 with
        | int i =>
          cases st with
          | nil => cases hr
          | cons v2 st =>
            cases v2 with
            | ref a =>
              dsimp only at hr
              split at hr
              · rename_i hk
                obtain rfl := Option.some.inj hr
                obtain ⟨hk0, hka, hi1, hi2⟩ := hk
                refine va_iast hx hb hK hP (zws_D hJ) hS a 0 (by rw [zws_get hka, zcell_0 hk0]) rfl (zin_of hi1 hi2) hdg (fun H1 locs1 hP1 _ hS1 => ?_)
                rw [zws_set (h' := zup h a i.toNatClampNeg x) hka (by rw [zcell_0 hk0, zup_row]) (fun j hj => zup_row_ne hj)] at hP1
                exact hN ls H1 locs1 hl hlen hP1 hS1 (zX_up hX hka)
              · cases hr
            | _ => cases hr
        | _ => cases hr
    | _ => cases hr
theorem s_aaload (hdg : decode cc pc = .ok (.aaload, 1)) : zSnd G L xs own cc nL ret pc (oAald (pc + 1)) := by
  intro p l e R s m args below meth c cells slots Q d C X lo st h r hr hN ls H locs hl hlen hP hS hX
  obtain ⟨hx, hb, hml, hown, hts, hK, hO, hJ, hrt, hlk⟩ := C
  unfold oAald at hr
  cases st with
  | nil => cases hr
  | cons v0 st =>
    cases v0 with
    | int i =>
      cases st with
      | nil => cases hr
      | cons v1 st =>
        cases v1 with
        | ref a =>
          dsimp only at hr
          split at hr
          · rename_i hk
            obtain rfl := Option.some.inj hr
            obtain ⟨hk0, hka, hi1, hi2⟩ := hk
            have hin := zin_of hi1 hi2
            have hlt : i.toNatClampNeg < (zsh a).2.2.1.length := Nat.not_le.mp fun q => hin (Or.inr q)
            have hc := hP a _ (zws_get hka)
            rw [zcell_2 hk0] at hc
            have hv : va_rf (((zsh a).2.2.1[i.toNatClampNeg]?).map fun q => zad G q.2) = .ref (zad G ((zsh a).2.2.1.getD i.toNatClampNeg (0, 0)).2) := by
              rw [List.getD_eq_getElem?_getD, List.getElem?_eq_getElem hlt]
              rfl
            have hty : ∃ ty, ArrOfT s (G.2.2.2.1 (zsh a).2.1) ty ∧ ty.isReference = true := by
              rcases zs_k2 hk0 with e | e
              · rw [e]; exact ⟨_, (hK.2 1 _ rfl).1, rfl⟩
              · rw [e]; exact ⟨_, (hK.2 2 _ rfl).1, rfl⟩
            obtain ⟨ty, ha, hr2⟩ := hty
            exact W.aald (v := .ref (zad G ((zsh a).2.2.1.getD i.toNatClampNeg (0, 0)).2)) (ty := ty) hx hb hc (ha (zsh a).2.2.1.length _) hr2 (fun q => by cases q) (by show ¬ (i < 0 ∨ (arrV _ _ _).slots.size ≤ _); rw [arrV_size]; exact hin) (by show (arrV _ _ _).slots[_]? = _; rw [arrV_read _ _ hlt]; exact congrArg some hv) rfl rfl hdg (hN ls H locs hl hlen hP hS hX)
          · cases hr
        | _ => cases hr
    | _ => cases hr
theorem s_alen (hdg : decode cc pc = .ok (.arraylength, 1)) : zSnd G L xs own cc nL ret pc (oAlen (pc + 1)) := by
  intro p l e R s m args below meth c cells slots Q d C X lo st h r hr hN ls H locs hl hlen hP hS hX
  obtain ⟨hx, hb, hml, hown, hts, hK, hO, hJ, hrt, hlk⟩ := C
  unfold oAlen at hr
  cases st with
  | nil => cases hr
  | cons v0 st =>
    cases v0 with
    | ref a =>
      dsimp only at hr
      split at hr
      · rename_i hk
        obtain rfl := Option.some.inj hr
        exact va_alen hx hb hK hP a 0 (x := ((zsh a).2.1, .inl (h a))) (by rw [zws_get hk.2, zcell_0 hk.1]) rfl rfl hdg (hN ls H locs hl hlen hP hS hX)
      · split at hr
        · rename_i hk
          obtain rfl := Option.some.inj hr
          obtain ⟨i, hi, rfl, e1, e2⟩ := zs_k4 hk
          exact va_tlen hx hb (hO.2.2.2.1.1 i hi).2.2.2 hS (by rw [e2]) hdg (hN ls H locs hl hlen hP hS hX)
        · cases hr
    | _ => cases hr
theorem s_baload (hdg : decode cc pc = .ok (.baload, 1)) : zSnd G L xs own cc nL ret pc (oBald (pc + 1)) := by
  intro p l e R s m args below meth c cells slots Q d C X lo st h r hr hN ls H locs hl hlen hP hS hX
  obtain ⟨hx, hb, hml, hown, hts, hK, hO, hJ, hrt, hlk⟩ := C
  unfold oBald at hr
  cases st with
  | nil => cases hr
  | cons v0 st =>
    cases v0 with
    | int i =>
      cases st with
      | nil => cases hr
      | cons v1 st =>
        cases v1 with
        | ref a =>
          dsimp only at hr
          split at hr
          · rename_i hk
            obtain rfl := Option.some.inj hr
            obtain ⟨hk0, hi1, hi2⟩ := hk
            obtain ⟨k, hk9, rfl, e1, e2⟩ := zs_k4 hk0
            rw [e2] at hi2
            exact va_tb hx hb (hO.2.2.2.1.1 k hk9).2.2.2 hS (zin_of hi1 hi2) (v := .int ((zsh (315 + 2 * k)).2.2.2.getD i.toNatClampNeg 0)) (by rw [e1]) hdg (hN ls H locs hl hlen hP hS hX)
          · cases hr
        | _ => cases hr
    | _ => cases hr
theorem s_strV {n : Nat} (hdg : decode cc pc = .ok (.getfield n, 3)) (hw : Cond.fieldLink own n "java/lang/String" "value" "[B" ∈ zgt) : zSnd G L xs own cc nL ret pc (oStrV (pc + 3)) := by
  intro p l e R s m args below meth c cells slots Q d C X lo st h r hr hN ls H locs hl hlen hP hS hX
  obtain ⟨hx, hb, hml, hown, hts, hK, hO, hJ, hrt, hlk⟩ := C
  unfold oStrV at hr
  cases st with
  | nil => cases hr
  | cons v0 st =>
    cases v0 with
    | ref a =>
      dsimp only at hr
      split at hr
      · rename_i hk
        obtain rfl := Option.some.inj hr
        obtain ⟨k, hk9, rfl, e1⟩ := zs_k5 hk
        rw [e1] at hN
        exact vk_getf hx hb (hO.2.2.2.1.1 k hk9).2.2.1 hS hown (hts _ hw) (fun x h => h) hdg (hN ls H locs hl hlen hP hS hX)
      · cases hr
    | _ => cases hr
theorem s_strC {n : Nat} (hdg : decode cc pc = .ok (.getfield n, 3)) (hw : Cond.fieldLink own n "java/lang/String" "coder" "B" ∈ zgt) : zSnd G L xs own cc nL ret pc (oStrC (pc + 3)) := by
  intro p l e R s m args below meth c cells slots Q d C X lo st h r hr hN ls H locs hl hlen hP hS hX
  obtain ⟨hx, hb, hml, hown, hts, hK, hO, hJ, hrt, hlk⟩ := C
  unfold oStrC at hr
  cases st with
  | nil => cases hr
  | cons v0 st =>
    cases v0 with
    | ref a =>
      dsimp only at hr
      split at hr
      · rename_i hk
        obtain rfl := Option.some.inj hr
        obtain ⟨k, hk9, rfl, e1⟩ := zs_k5 hk
        exact vk_getf hx hb (hO.2.2.2.1.1 k hk9).2.1 hS hown (hts _ hw) (fun x h => h) hdg (hN ls H locs hl hlen hP hS hX)
      · cases hr
    | _ => cases hr
theorem s_sald (hdg : decode cc pc = .ok (.iaload, 1)) : zSnd G L xs own cc nL ret pc (oSald (pc + 1)) := by
  intro p l e R s m args below meth c cells slots Q d C X lo st h r hr hN ls H locs hl hlen hP hS hX
  obtain ⟨hx, hb, hml, hown, hts, hK, hO, hJ, hrt, hlk⟩ := C
  unfold oSald at hr
  cases st with
  | nil => cases hr
  | cons v0 st =>
    cases v0 with
    | int i =>
      cases st with
      | nil => cases hr
      | cons v1 st =>
        cases v1 with
        | ref a =>
          dsimp only at hr
          split at hr
          · rename_i hk
            obtain rfl := Option.some.inj hr
            obtain ⟨rfl, hi1, hi2⟩ := hk
            have hL : (h 400 0).toNatClampNeg = L := by
              rw [hX.2.1]
              exact Int32.toNatClampNeg_ofNat_of_lt (by have := hX.2.2; omega)
            rw [hL] at hi2
            have hin := zin_of hi1 hi2
            have hlt : i.toNatClampNeg < L := Nat.not_le.mp fun q => hin (Or.inr q)
            have hN : zGW G L xs nL p l e R s m args below meth c cells slots Q (pc + 1) lo (.int (h 313 i.toNatClampNeg) :: st) h := hN
            rw [hX.1 _ hlt] at hN
            exact va_sld hx hb hO.2.2.2.2.2.1.1 hO.2.2.2.2.2.1.2.1 hO.2.2.2.2.2.1.2.2 hS hin hdg (hN ls H locs hl hlen hP hS hX)
          · cases hr
        | _ => cases hr
    | _ => cases hr
theorem s_slen (hdg : decode cc pc = .ok (.arraylength, 1)) : zSnd G L xs own cc nL ret pc (oSlen (pc + 1)) := by
  intro p l e R s m args below meth c cells slots Q d C X lo st h r hr hN ls H locs hl hlen hP hS hX
  obtain ⟨hx, hb, hml, hown, hts, hK, hO, hJ, hrt, hlk⟩ := C
  unfold oSlen at hr
  cases st with
  | nil => cases hr
  | cons v0 st =>
    cases v0 with
    | ref a =>
      dsimp only at hr
      split at hr
      · rename_i hk
        obtain rfl := Option.some.inj hr
        subst hk
        have hN : zGW G L xs nL p l e R s m args below meth c cells slots Q (pc + 1) lo (.int (h 400 0) :: st) h := hN
        rw [hX.2.1] at hN
        exact va_slen hx hb hO.2.2.2.2.2.1.1 hO.2.2.2.2.2.1.2.1 hO.2.2.2.2.2.1.2.2 hS hdg (hN ls H locs hl hlen hP hS hX)
      · cases hr
    | _ => cases hr
theorem s_getf {n ci j N : Nat} {C : String} {T : u_T} (hdg : decode cc pc = .ok (.getfield n, 3)) (hc : vwCl[ci]? = some (C, T, N)) (hin : ∀ w ∈ u_ws C T N, w ∈ zgt) (hj : j < N) (hw : Cond.fieldLink own n (T j).1 (T j).2.1 (T j).2.2.1 ∈ zgt) : zSnd G L xs own cc nL ret pc (oGf ci j (pc + 3)) := by
  intro p l e R s m args below meth c cells slots Q d C X lo st h r hr hN ls H locs hl hlen hP hS hX
  obtain ⟨hx, hb, hml, hown, hts, hK, hO, hJ, hrt, hlk⟩ := C
  unfold oGf at hr
  cases st with
  | nil => cases hr
  | cons v0 st =>
    cases v0 with
    | ref a =>
      dsimp only at hr
      split at hr
      · rename_i hk
        obtain ⟨hk1, hk2, hka⟩ := hk
        cases hq : (zsh a).2.2.1[j]? with
        | none => rw [hq] at hr; cases hr
        | some q =>
          rw [hq] at hr
          obtain rfl := Option.some.inj hr
          have hN : zGW G L xs nL p l e R s m args below meth c cells slots Q (pc + 3) lo (zfv h a j q :: st) h := hN
          have h9 := (hN ls H locs hl hlen hP hS hX)
          rw [List.map_cons, zt_fv] at h9
          exact va_get hx hb hts hin hown hK hP a (by rw [zws_get hka, zcell_1 hk1, hk2]) hc j hj (hts _ hw) (fun x h => h) (zfs_get hq) hdg h9
      · cases hr
    | _ => cases hr
theorem s_putf {n ci j N : Nat} {C : String} {T : u_T} {ty0 : Nat → FieldType} (hdg : decode cc pc = .ok (.putfield n, 3)) (hc : vwCl[ci]? = some (C, T, N)) (hin : ∀ w ∈ u_ws C T N, w ∈ zgt) (hty : ∀ k, k < N → parseFieldDescriptor (T k).2.2.1 = some (ty0 k)) (hnm : ∀ a, a < N → ∀ b, b < N → a ≠ b → (T a).2.1 ≠ (T b).2.1) (hw : Cond.fieldLink own n (T j).1 (T j).2.1 (T j).2.2.1 ∈ zgt) : zSnd G L xs own cc nL ret pc (oPf ci j (pc + 3)) := by
  intro p l e R s m args below meth c cells slots Q d C X lo st h r hr hN ls H locs hl hlen hP hS hX
  obtain ⟨hx, hb, hml, hown, hts, hK, hO, hJ, hrt, hlk⟩ := C
  have key : ∀ (a : Nat) (q : Nat × Nat) (x : Int32) (v : Value) (rest : List Value), (zsh a).1 = 1 → (zsh a).2.1 = ci → a < 309 → (zsh a).2.2.1[j]? = some q → zval G (upd (h a) j x) j q = v → (q.1 = 0 ∨ q.1 = 2 ∨ q.1 = 3) → (∀ ty, (q.1 = 0 → ty = FieldType.int) → (q.1 = 2 → ty = FieldType.boolean) → (q.1 = 3 → ty = FieldType.array .int ∨ ty = FieldType.object "java/lang/String") → narrow ty v = v ∧ fits ty v = true) → zGW G L xs nL p l e R s m args below meth c cells slots Q (pc + 3) lo rest (zup h a j x) → W p l e R s m args below meth c H locs cells slots Q (F0 m pc ls (v :: .ref (zad G a) :: rest.map (zt G))) := by
    intro a q x v rest h1 h2 ha hq hv hq3 hnf hNN
    have hz := zslc_ok a ha h1 j (List.getElem?_eq_some_iff.mp hq).1
    unfold zslc at hz
    rw [h2, hc] at hz
    simp only [hq] at hz
    have hd : j < N ∧ (T j).2.2.2 = false ∧ ∃ ty, parseFieldDescriptor (T j).2.2.1 = some ty ∧ (q.1 = 0 → ty = FieldType.int) ∧ (q.1 = 2 → ty = FieldType.boolean) ∧ (q.1 = 3 → ty = FieldType.array .int ∨ ty = FieldType.object "java/lang/String") := by
      rcases hq3 with e0 | e0 | e0
      · rw [if_pos e0] at hz
        simp only [Bool.and_eq_true, beq_iff_eq, Bool.not_eq_true', Nat.blt_eq] at hz
        exact ⟨hz.2, hz.1.2, .int, by rw [hz.1.1]; decide +kernel, fun _ => rfl, fun z => by omega, fun z => by omega⟩
      · rw [if_neg (by omega), if_pos e0] at hz
        simp only [Bool.and_eq_true, beq_iff_eq, Bool.not_eq_true', Nat.blt_eq] at hz
        exact ⟨hz.2, hz.1.2, .boolean, by rw [hz.1.1]; decide +kernel, fun z => by omega, fun _ => rfl, fun z => by omega⟩
      · rw [if_neg (by omega), if_neg (by omega), if_pos e0] at hz
        simp only [Bool.and_eq_true, Bool.or_eq_true, beq_iff_eq, Bool.not_eq_true', Nat.blt_eq] at hz
        obtain ⟨⟨hs, hf⟩, hj⟩ := hz
        rcases hs with hs | hs
        · exact ⟨hj, hf, .array .int, by rw [hs]; decide +kernel, fun z => by omega, fun z => by omega, fun _ => Or.inl rfl⟩
        · exact ⟨hj, hf, .object "java/lang/String", by rw [hs]; decide +kernel, fun z => by omega, fun z => by omega, fun _ => Or.inr rfl⟩
    obtain ⟨hj, hfin, ty, hd, t0, t2, t3⟩ := hd
    obtain ⟨n1, n2⟩ := hnf ty t0 t2 t3
    refine va_put hx hb hts hin ty0 hty hnm hown hK hP (zws_D hJ) hS a (by rw [zws_get ha, zcell_1 h1, h2]) hc j hj (hts _ hw) (fun x h => h) hfin hd n1 n2 (by unfold zfs; rw [List.length_mapIdx]; exact (List.getElem?_eq_some_iff.mp hq).1) hdg (fun H1 locs1 hP1 _ hS1 => ?_)
    rw [← hv, zfs_set hq, zws_set (h' := zup h a j x) ha (by rw [zcell_1 h1, zup_row, h2]) (fun j hj => zup_row_ne hj)] at hP1
    exact hNN ls H1 locs1 hl hlen hP1 hS1 (zX_up hX ha)
  unfold oPf at hr
  cases st with
  | nil => cases hr
  | cons v0 st =>
    cases v0 with
    | int x =>
      cases st with
      | nil => cases hr
      | cons v1 st =>
        cases v1 with
        | ref a =>
          dsimp only at hr
          split at hr
          · rename_i hk
            obtain ⟨hk1, hk2, hka⟩ := hk
            cases hq : (zsh a).2.2.1[j]? with
            | none => rw [hq] at hr; cases hr
            | some q =>
              rw [hq] at hr
              dsimp only at hr
              split at hr
              · rename_i hqq
                obtain rfl := Option.some.inj hr
                have hN : zGW G L xs nL p l e R s m args below meth c cells slots Q (pc + 3) lo st (zup h a j x) := hN
                refine key a q x (.int x) st hk1 hk2 hka hq ?_ ?_ ?_ hN
                · unfold zval
                  rw [if_neg (by omega), if_neg (by omega)]
                  simp [upd]
                · omega
                · intro ty t0 t2 t3
                  rcases hqq with e0 | ⟨e2, ex⟩
                  · rw [t0 e0]; exact ⟨rfl, rfl⟩
                  · rw [t2 e2]
                    rcases ex with rfl | rfl
                    · exact ⟨by decide, by decide⟩
                    · exact ⟨by decide, by decide⟩
              · cases hr
          · cases hr
        | _ => cases hr
    | ref r0 =>
      cases st with
      | nil => cases hr
      | cons v1 st =>
        cases v1 with
        | ref a =>
          dsimp only at hr
          split at hr
          · rename_i hk
            obtain ⟨hk1, hk2, hka⟩ := hk
            cases hq : (zsh a).2.2.1[j]? with
            | none => rw [hq] at hr; cases hr
            | some q =>
              rw [hq] at hr
              dsimp only at hr
              split at hr
              · rename_i hqq
                obtain rfl := Option.some.inj hr
                have hN : zGW G L xs nL p l e R s m args below meth c cells slots Q (pc + 3) lo st (zup h a j (Int32.ofNat r0)) := hN
                refine key a q (Int32.ofNat r0) (.ref (zad G r0)) st hk1 hk2 hka hq ?_ ?_ ?_ hN
                · unfold zval
                  rw [if_neg (by omega), if_pos hqq.1]
                  simp only [upd, if_pos]
                  rw [Int32.toNatClampNeg_ofNat_of_lt (Nat.lt_trans hqq.2 (by decide))]
                · omega
                · intro ty t0 t2 t3
                  rcases t3 hqq.1 with e | e
                  · rw [e]; exact ⟨rfl, rfl⟩
                  · rw [e]; exact ⟨rfl, rfl⟩
              · cases hr
          · cases hr
        | _ => cases hr
    | _ => cases hr
end SND2
