/-! ===== one instruction ===== -/
section SND
variable {G : zG} {L : Nat} {xs : Nat → Int32} {own : String} {cc : ByteArray} {nL : Nat} {ret : Option FieldType} {pc : Nat}
theorem s_iconst {n : Int} {v : Int32} (hdg : decode cc pc = .ok (.iconst n, 1)) (hv : Int32.ofInt n = v) : zSnd G L xs own cc nL ret pc (oPush v (pc + 1)) := by
  intro p l e R s m args below meth c cells slots Q d C X lo st h r hr hN ls H locs hl hlen hP hS hX
  obtain ⟨hx, hb, hml, hown, hts, hK, hO, hJ, hrt, hlk⟩ := C
  obtain rfl := Option.some.inj hr
  exact lv_iconst hx hb hdg hv (hN ls H locs hl hlen hP hS hX)
theorem s_bipush {n : Int} {v : Int32} (hdg : decode cc pc = .ok (.bipush n, 2)) (hv : (Int8.ofInt n).toInt32 = v) : zSnd G L xs own cc nL ret pc (oPush v (pc + 2)) := by
  intro p l e R s m args below meth c cells slots Q d C X lo st h r hr hN ls H locs hl hlen hP hS hX
  obtain ⟨hx, hb, hml, hown, hts, hK, hO, hJ, hrt, hlk⟩ := C
  obtain rfl := Option.some.inj hr
  exact lv_bipush hx hb hdg hv (hN ls H locs hl hlen hP hS hX)
theorem s_sipush {n : Int} {v : Int32} (hdg : decode cc pc = .ok (.sipush n, 3)) (hv : (Int16.ofInt n).toInt32 = v) : zSnd G L xs own cc nL ret pc (oPush v (pc + 3)) := by
  intro p l e R s m args below meth c cells slots Q d C X lo st h r hr hN ls H locs hl hlen hP hS hX
  obtain ⟨hx, hb, hml, hown, hts, hK, hO, hJ, hrt, hlk⟩ := C
  obtain rfl := Option.some.inj hr
  exact lv_sipush hx hb hdg hv (hN ls H locs hl hlen hP hS hX)
theorem s_ldc {i : Nat} {v : Int32} (hdg : decode cc pc = .ok (.ldc i, 2)) (hw : Cond.constant own i v ∈ zgt) : zSnd G L xs own cc nL ret pc (oPush v (pc + 2)) := by
  intro p l e R s m args below meth c cells slots Q d C X lo st h r hr hN ls H locs hl hlen hP hS hX
  obtain ⟨hx, hb, hml, hown, hts, hK, hO, hJ, hrt, hlk⟩ := C
  obtain rfl := Option.some.inj hr
  exact lv_ldc hx hb hown (hts _ hw) hdg (hN ls H locs hl hlen hP hS hX)
theorem s_ldcw {i : Nat} {v : Int32} (hdg : decode cc pc = .ok (.ldc_w i, 3)) (hw : Cond.constant own i v ∈ zgt) : zSnd G L xs own cc nL ret pc (oPush v (pc + 3)) := by
  intro p l e R s m args below meth c cells slots Q d C X lo st h r hr hN ls H locs hl hlen hP hS hX
  obtain ⟨hx, hb, hml, hown, hts, hK, hO, hJ, hrt, hlk⟩ := C
  obtain rfl := Option.some.inj hr
  exact lv_ldcw hx hb hown (hts _ hw) hdg (hN ls H locs hl hlen hP hS hX)
theorem s_ldc2 {i : Nat} {v : Int64} (hdg : decode cc pc = .ok (.ldc2_w i, 3)) (hw : Cond.constantLong own i v ∈ zgt) : zSnd G L xs own cc nL ret pc (oPushL v (pc + 3)) := by
  intro p l e R s m args below meth c cells slots Q d C X lo st h r hr hN ls H locs hl hlen hP hS hX
  obtain ⟨hx, hb, hml, hown, hts, hK, hO, hJ, hrt, hlk⟩ := C
  obtain rfl := Option.some.inj hr
  exact lv_ldc2 hx hb hown (hts _ hw) hdg (hN ls H locs hl hlen hP hS hX)
theorem s_ldcS {i t : Nat} {tx : String} (hdg : decode cc pc = .ok (.ldc i, 2)) (hq : (own, i, tx, t) ∈ zstr) : zSnd G L xs own cc nL ret pc (oRefC (314 + 2 * t) (pc + 2)) := by
  intro p l e R s m args below meth c cells slots Q d C X lo st h r hr hN ls H locs hl hlen hP hS hX
  obtain ⟨hx, hb, hml, hown, hts, hK, hO, hJ, hrt, hlk⟩ := C
  obtain rfl := Option.some.inj hr
  exact va_ldcS hx hb hown (hO.2.2.2.2.1 _ hq) hdg (hN ls H locs hl hlen hP hS hX)
theorem s_gst {i k : Nat} {C n : String} (hdg : decode cc pc = .ok (.getstatic i, 3)) (hq : (C, n, k) ∈ zst) (hw : Cond.fieldLink own i C n "[I" ∈ zgt) : zSnd G L xs own cc nL ret pc (oRefC k (pc + 3)) := by
  intro p l e R s m args below meth c cells slots Q d C X lo st h r hr hN ls H locs hl hlen hP hS hX
  obtain ⟨hx, hb, hml, hown, hts, hK, hO, hJ, hrt, hlk⟩ := C
  obtain rfl := Option.some.inj hr
  exact va_gets hx hb (hO.1 _ hq) hS hown (hts _ hw) (fun x h => h) hdg (hN ls H locs hl hlen hP hS hX)
theorem s_gstN (ho : own = RX3) (hdg : decode cc pc = .ok (.getstatic 44, 3)) : zSnd G L xs own cc nL ret pc (oRefC 309 (pc + 3)) := by
  intro p l e R s m args below meth c cells slots Q d C X lo st h r hr hN ls H locs hl hlen hP hS hX
  obtain ⟨hx, hb, hml, hown, hts, hK, hO, hJ, hrt, hlk⟩ := C
  subst ho
  obtain rfl := Option.some.inj hr
  exact va_getsN hx hb (C := "LoudMarket") (n := "KIND_ABOVE") (hO.1 ("LoudMarket", "KIND_ABOVE", 309) (by decide)) hS hown (va_Nw.use rfl hO.2.2.2.2.2.2.2) (fun x h => h) hdg (hN ls H locs hl hlen hP hS hX)
theorem s_gstC {i : Nat} (hdg : decode cc pc = .ok (.getstatic i, 3)) (hw : Cond.fieldLink own i "java/lang/String" "COMPACT_STRINGS" "Z" ∈ zgt) : zSnd G L xs own cc nL ret pc (oPush 1 (pc + 3)) := by
  intro p l e R s m args below meth c cells slots Q d C X lo st h r hr hN ls H locs hl hlen hP hS hX
  obtain ⟨hx, hb, hml, hown, hts, hK, hO, hJ, hrt, hlk⟩ := C
  obtain rfl := Option.some.inj hr
  exact va_gets hx hb hO.2.2.1 hS hown (hts _ hw) (fun x h => h) hdg (hN ls H locs hl hlen hP hS hX)
theorem s_iload_n {k : Fin 4} {i : Nat} (hdg : decode cc pc = .ok (.iload_n k, 1)) (hi : (k : Nat) = i) : zSnd G L xs own cc nL ret pc (oIl i (pc + 1)) := by
  intro p l e R s m args below meth c cells slots Q d C X lo st h r hr hN ls H locs hl hlen hP hS hX
  obtain ⟨hx, hb, hml, hown, hts, hK, hO, hJ, hrt, hlk⟩ := C
  unfold oIl at hr
  cases hv : lo[i]? with
  | none => rw [hv] at hr; cases hr
  | some v =>
    cases v with
    | int x =>
      rw [hv] at hr
      obtain rfl := Option.some.inj hr
      exact lv_iload_n hx hb hdg hi (zls_get hl hv (fun z => by cases z)) (hN ls H locs hl hlen hP hS hX)
    | _ => rw [hv] at hr; cases hr
theorem s_iload {i : Nat} (hdg : decode cc pc = .ok (.iload i, 2)) : zSnd G L xs own cc nL ret pc (oIl i (pc + 2)) := by
  intro p l e R s m args below meth c cells slots Q d C X lo st h r hr hN ls H locs hl hlen hP hS hX
  obtain ⟨hx, hb, hml, hown, hts, hK, hO, hJ, hrt, hlk⟩ := C
  unfold oIl at hr
  cases hv : lo[i]? with
  | none => rw [hv] at hr; cases hr
  | some v =>
    cases v with
    | int x =>
      rw [hv] at hr
      obtain rfl := Option.some.inj hr
      exact lv_iload hx hb hdg (zls_get hl hv (fun z => by cases z)) (hN ls H locs hl hlen hP hS hX)
    | _ => rw [hv] at hr; cases hr
theorem s_lload_n {k : Fin 4} {i : Nat} (hdg : decode cc pc = .ok (.lload_n k, 1)) (hi : (k : Nat) = i) : zSnd G L xs own cc nL ret pc (oLl i (pc + 1)) := by
  intro p l e R s m args below meth c cells slots Q d C X lo st h r hr hN ls H locs hl hlen hP hS hX
  obtain ⟨hx, hb, hml, hown, hts, hK, hO, hJ, hrt, hlk⟩ := C
  unfold oLl at hr
  cases hv : lo[i]? with
  | none => rw [hv] at hr; cases hr
  | some v =>
    cases v with
    | long x =>
      rw [hv] at hr
      obtain rfl := Option.some.inj hr
      exact lv_lload_n hx hb hdg hi (zls_get hl hv (fun z => by cases z)) (hN ls H locs hl hlen hP hS hX)
    | _ => rw [hv] at hr; cases hr
theorem s_lload {i : Nat} (hdg : decode cc pc = .ok (.lload i, 2)) : zSnd G L xs own cc nL ret pc (oLl i (pc + 2)) := by
  intro p l e R s m args below meth c cells slots Q d C X lo st h r hr hN ls H locs hl hlen hP hS hX
  obtain ⟨hx, hb, hml, hown, hts, hK, hO, hJ, hrt, hlk⟩ := C
  unfold oLl at hr
  cases hv : lo[i]? with
  | none => rw [hv] at hr; cases hr
  | some v =>
    cases v with
    | long x =>
      rw [hv] at hr
      obtain rfl := Option.some.inj hr
      exact lv_lload hx hb hdg (zls_get hl hv (fun z => by cases z)) (hN ls H locs hl hlen hP hS hX)
    | _ => rw [hv] at hr; cases hr
theorem s_aload_n {k : Fin 4} {i : Nat} (hdg : decode cc pc = .ok (.aload_n k, 1)) (hi : (k : Nat) = i) : zSnd G L xs own cc nL ret pc (oAl i (pc + 1)) := by
  intro p l e R s m args below meth c cells slots Q d C X lo st h r hr hN ls H locs hl hlen hP hS hX
  obtain ⟨hx, hb, hml, hown, hts, hK, hO, hJ, hrt, hlk⟩ := C
  unfold oAl at hr
  cases hv : lo[i]? with
  | none => rw [hv] at hr; cases hr
  | some v =>
    cases v with
    | ref x =>
      rw [hv] at hr
      obtain rfl := Option.some.inj hr
      exact lv_aload_n hx hb hdg hi (zls_get hl hv (fun z => by cases z)) (hN ls H locs hl hlen hP hS hX)
    | _ => rw [hv] at hr; cases hr
theorem s_aload {i : Nat} (hdg : decode cc pc = .ok (.aload i, 2)) : zSnd G L xs own cc nL ret pc (oAl i (pc + 2)) := by
  intro p l e R s m args below meth c cells slots Q d C X lo st h r hr hN ls H locs hl hlen hP hS hX
  obtain ⟨hx, hb, hml, hown, hts, hK, hO, hJ, hrt, hlk⟩ := C
  unfold oAl at hr
  cases hv : lo[i]? with
  | none => rw [hv] at hr; cases hr
  | some v =>
    cases v with
    | ref x =>
      rw [hv] at hr
      obtain rfl := Option.some.inj hr
      exact lv_aload hx hb hdg (zls_get hl hv (fun z => by cases z)) (hN ls H locs hl hlen hP hS hX)
    | _ => rw [hv] at hr; cases hr
theorem s_istore_n {k : Fin 4} {i : Nat} (hdg : decode cc pc = .ok (.istore_n k, 1)) (hi : (k : Nat) = i) : zSnd G L xs own cc nL ret pc (oIs i (pc + 1)) := by
  intro p l e R s m args below meth c cells slots Q d C X lo st h r hr hN ls H locs hl hlen hP hS hX
  obtain ⟨hx, hb, hml, hown, hts, hK, hO, hJ, hrt, hlk⟩ := C
  unfold oIs at hr
  cases st with
  | nil => cases hr
  | cons v st =>
    cases v with
    | int x =>
      dsimp only at hr
      split at hr
      · rename_i hk
        obtain rfl := Option.some.inj hr
        have hn := (zok_spec hk).1
        exact lv_istore_n hx hb hdg hi hl (by omega) rfl (fun ls' hl' => hN ls' H locs (lv_mono hl' (zls_set hk)) (by simpa using hlen) hP hS hX)
      · cases hr
    | _ => cases hr
theorem s_istore {i : Nat} (hdg : decode cc pc = .ok (.istore i, 2)) : zSnd G L xs own cc nL ret pc (oIs i (pc + 2)) := by
  intro p l e R s m args below meth c cells slots Q d C X lo st h r hr hN ls H locs hl hlen hP hS hX
  obtain ⟨hx, hb, hml, hown, hts, hK, hO, hJ, hrt, hlk⟩ := C
  unfold oIs at hr
  cases st with
  | nil => cases hr
  | cons v st =>
    cases v with
    | int x =>
      dsimp only at hr
      split at hr
      · rename_i hk
        obtain rfl := Option.some.inj hr
        have hn := (zok_spec hk).1
        exact lv_istore hx hb hdg hl (by omega) rfl (fun ls' hl' => hN ls' H locs (lv_mono hl' (zls_set hk)) (by simpa using hlen) hP hS hX)
      · cases hr
    | _ => cases hr
theorem s_astore_n {k : Fin 4} {i : Nat} (hdg : decode cc pc = .ok (.astore_n k, 1)) (hi : (k : Nat) = i) : zSnd G L xs own cc nL ret pc (oAs i (pc + 1)) := by
  intro p l e R s m args below meth c cells slots Q d C X lo st h r hr hN ls H locs hl hlen hP hS hX
  obtain ⟨hx, hb, hml, hown, hts, hK, hO, hJ, hrt, hlk⟩ := C
  unfold oAs at hr
  cases st with
  | nil => cases hr
  | cons v st =>
    cases v with
    | ref x =>
      dsimp only at hr
      split at hr
      · rename_i hk
        obtain rfl := Option.some.inj hr
        have hn := (zok_spec hk).1
        exact lv_astore_n hx hb hdg hi hl (by omega) rfl (fun ls' hl' => hN ls' H locs (lv_mono hl' (zls_set hk)) (by simpa using hlen) hP hS hX)
      · cases hr
    | _ => cases hr
theorem s_astore {i : Nat} (hdg : decode cc pc = .ok (.astore i, 2)) : zSnd G L xs own cc nL ret pc (oAs i (pc + 2)) := by
  intro p l e R s m args below meth c cells slots Q d C X lo st h r hr hN ls H locs hl hlen hP hS hX
  obtain ⟨hx, hb, hml, hown, hts, hK, hO, hJ, hrt, hlk⟩ := C
  unfold oAs at hr
  cases st with
  | nil => cases hr
  | cons v st =>
    cases v with
    | ref x =>
      dsimp only at hr
      split at hr
      · rename_i hk
        obtain rfl := Option.some.inj hr
        have hn := (zok_spec hk).1
        exact lv_astore hx hb hdg hl (by omega) rfl (fun ls' hl' => hN ls' H locs (lv_mono hl' (zls_set hk)) (by simpa using hlen) hP hS hX)
      · cases hr
    | _ => cases hr
theorem s_iinc {i : Nat} {n : Int} {v : Int32} (hdg : decode cc pc = .ok (.iinc i n, 3)) (hv : Int32.ofInt n = v) : zSnd G L xs own cc nL ret pc (oInc i v (pc + 3)) := by
  intro p l e R s m args below meth c cells slots Q d C X lo st h r hr hN ls H locs hl hlen hP hS hX
  obtain ⟨hx, hb, hml, hown, hts, hK, hO, hJ, hrt, hlk⟩ := C
  unfold oInc at hr
  subst hv
  cases hv : lo[i]? with
  | none => rw [hv] at hr; cases hr
  | some v =>
    cases v with
    | int x =>
      rw [hv] at hr
      dsimp only at hr
      split at hr
      · rename_i hk
        obtain rfl := Option.some.inj hr
        have hn := (zok_spec hk).1
        obtain ⟨k9, hk9⟩ := List.getElem?_of_mem (zls_mem (G := G) (q := (i, .int x)).mpr ⟨.int x, hv, (fun z => by cases z), rfl⟩)
        exact lv_iinc hx hb hdg hl hk9 rfl (by omega) rfl (fun ls' hl' => hN ls' H locs (lv_mono hl' (zls_set hk)) (by simpa using hlen) hP hS hX)
      · cases hr
    | _ => rw [hv] at hr; cases hr
theorem s_iadd (hdg : decode cc pc = .ok (.iadd, 1)) : zSnd G L xs own cc nL ret pc (oBin (fun x y => x + y) (pc + 1)) := by
  intro p l e R s m args below meth c cells slots Q d C X lo st h r hr hN ls H locs hl hlen hP hS hX
  obtain ⟨hx, hb, hml, hown, hts, hK, hO, hJ, hrt, hlk⟩ := C
  unfold oBin at hr
  cases st with
  | nil => cases hr
  | cons v0 st =>
    cases v0 with
    | int x0 =>
      cases st with
      | nil => cases hr
      | cons v1 st =>
        cases v1 with
        | int x1 =>
          obtain rfl := Option.some.inj hr
          exact lv_iadd hx hb hdg (hN ls H locs hl hlen hP hS hX)
        | _ => cases hr
    | _ => cases hr
theorem s_isub (hdg : decode cc pc = .ok (.isub, 1)) : zSnd G L xs own cc nL ret pc (oBin (fun x y => x - y) (pc + 1)) := by
  intro p l e R s m args below meth c cells slots Q d C X lo st h r hr hN ls H locs hl hlen hP hS hX
  obtain ⟨hx, hb, hml, hown, hts, hK, hO, hJ, hrt, hlk⟩ := C
  unfold oBin at hr
  cases st with
  | nil => cases hr
  | cons v0 st =>
    cases v0 with
    | int x0 =>
      cases st with
      | nil => cases hr
      | cons v1 st =>
        cases v1 with
        | int x1 =>
          obtain rfl := Option.some.inj hr
          exact lv_isub hx hb hdg (hN ls H locs hl hlen hP hS hX)
        | _ => cases hr
    | _ => cases hr
theorem s_imul (hdg : decode cc pc = .ok (.imul, 1)) : zSnd G L xs own cc nL ret pc (oBin (fun x y => x * y) (pc + 1)) := by
  intro p l e R s m args below meth c cells slots Q d C X lo st h r hr hN ls H locs hl hlen hP hS hX
  obtain ⟨hx, hb, hml, hown, hts, hK, hO, hJ, hrt, hlk⟩ := C
  unfold oBin at hr
  cases st with
  | nil => cases hr
  | cons v0 st =>
    cases v0 with
    | int x0 =>
      cases st with
      | nil => cases hr
      | cons v1 st =>
        cases v1 with
        | int x1 =>
          obtain rfl := Option.some.inj hr
          exact lv_imul hx hb hdg (hN ls H locs hl hlen hP hS hX)
        | _ => cases hr
    | _ => cases hr
theorem s_iand (hdg : decode cc pc = .ok (.iand, 1)) : zSnd G L xs own cc nL ret pc (oBin (fun x y => x &&& y) (pc + 1)) := by
  intro p l e R s m args below meth c cells slots Q d C X lo st h r hr hN ls H locs hl hlen hP hS hX
  obtain ⟨hx, hb, hml, hown, hts, hK, hO, hJ, hrt, hlk⟩ := C
  unfold oBin at hr
  cases st with
  | nil => cases hr
  | cons v0 st =>
    cases v0 with
    | int x0 =>
      cases st with
      | nil => cases hr
      | cons v1 st =>
        cases v1 with
        | int x1 =>
          obtain rfl := Option.some.inj hr
          exact lv_iand hx hb hdg (hN ls H locs hl hlen hP hS hX)
        | _ => cases hr
    | _ => cases hr
theorem s_ior (hdg : decode cc pc = .ok (.ior, 1)) : zSnd G L xs own cc nL ret pc (oBin (fun x y => x ||| y) (pc + 1)) := by
  intro p l e R s m args below meth c cells slots Q d C X lo st h r hr hN ls H locs hl hlen hP hS hX
  obtain ⟨hx, hb, hml, hown, hts, hK, hO, hJ, hrt, hlk⟩ := C
  unfold oBin at hr
  cases st with
  | nil => cases hr
  | cons v0 st =>
    cases v0 with
    | int x0 =>
      cases st with
      | nil => cases hr
      | cons v1 st =>
        cases v1 with
        | int x1 =>
          obtain rfl := Option.some.inj hr
          exact lv_ior hx hb hdg (hN ls H locs hl hlen hP hS hX)
        | _ => cases hr
    | _ => cases hr
theorem s_ixor (hdg : decode cc pc = .ok (.ixor, 1)) : zSnd G L xs own cc nL ret pc (oBin (fun x y => x ^^^ y) (pc + 1)) := by
  intro p l e R s m args below meth c cells slots Q d C X lo st h r hr hN ls H locs hl hlen hP hS hX
  obtain ⟨hx, hb, hml, hown, hts, hK, hO, hJ, hrt, hlk⟩ := C
  unfold oBin at hr
  cases st with
  | nil => cases hr
  | cons v0 st =>
    cases v0 with
    | int x0 =>
      cases st with
      | nil => cases hr
      | cons v1 st =>
        cases v1 with
        | int x1 =>
          obtain rfl := Option.some.inj hr
          exact lv_ixor hx hb hdg (hN ls H locs hl hlen hP hS hX)
        | _ => cases hr
    | _ => cases hr
theorem s_ishl (hdg : decode cc pc = .ok (.ishl, 1)) : zSnd G L xs own cc nL ret pc (oBin (fun x y => x <<< (y &&& 31)) (pc + 1)) := by
  intro p l e R s m args below meth c cells slots Q d C X lo st h r hr hN ls H locs hl hlen hP hS hX
  obtain ⟨hx, hb, hml, hown, hts, hK, hO, hJ, hrt, hlk⟩ := C
  unfold oBin at hr
  cases st with
  | nil => cases hr
  | cons v0 st =>
    cases v0 with
    | int x0 =>
      cases st with
      | nil => cases hr
      | cons v1 st =>
        cases v1 with
        | int x1 =>
          obtain rfl := Option.some.inj hr
          exact lv_ishl hx hb hdg (hN ls H locs hl hlen hP hS hX)
        | _ => cases hr
    | _ => cases hr
theorem s_ishr (hdg : decode cc pc = .ok (.ishr, 1)) : zSnd G L xs own cc nL ret pc (oBin (fun x y => x >>> (y &&& 31)) (pc + 1)) := by
  intro p l e R s m args below meth c cells slots Q d C X lo st h r hr hN ls H locs hl hlen hP hS hX
  obtain ⟨hx, hb, hml, hown, hts, hK, hO, hJ, hrt, hlk⟩ := C
  unfold oBin at hr
  cases st with
  | nil => cases hr
  | cons v0 st =>
    cases v0 with
    | int x0 =>
      cases st with
      | nil => cases hr
      | cons v1 st =>
        cases v1 with
        | int x1 =>
          obtain rfl := Option.some.inj hr
          exact lv_ishr hx hb hdg (hN ls H locs hl hlen hP hS hX)
        | _ => cases hr
    | _ => cases hr
theorem s_iushr (hdg : decode cc pc = .ok (.iushr, 1)) : zSnd G L xs own cc nL ret pc (oBin (fun x y => (x.toUInt32 >>> (y.toUInt32 &&& Int32.toUInt32 31)).toInt32) (pc + 1)) := by
  intro p l e R s m args below meth c cells slots Q d C X lo st h r hr hN ls H locs hl hlen hP hS hX
  obtain ⟨hx, hb, hml, hown, hts, hK, hO, hJ, hrt, hlk⟩ := C
  unfold oBin at hr
  cases st with
  | nil => cases hr
  | cons v0 st =>
    cases v0 with
    | int x0 =>
      cases st with
      | nil => cases hr
      | cons v1 st =>
        cases v1 with
        | int x1 =>
          obtain rfl := Option.some.inj hr
          exact lv_iushr hx hb hdg rfl (hN ls H locs hl hlen hP hS hX)
        | _ => cases hr
    | _ => cases hr
theorem s_idiv (hdg : decode cc pc = .ok (.idiv, 1)) : zSnd G L xs own cc nL ret pc (oDiv (pc + 1)) := by
  intro p l e R s m args below meth c cells slots Q d C X lo st h r hr hN ls H locs hl hlen hP hS hX
  obtain ⟨hx, hb, hml, hown, hts, hK, hO, hJ, hrt, hlk⟩ := C
  unfold oDiv at hr
  cases st with
  | nil => cases hr
  | cons v0 st =>
    cases v0 with
    | int x0 =>
      cases st with
      | nil => cases hr
      | cons v1 st =>
        cases v1 with
        | int x1 =>
          dsimp only at hr
          split at hr
          · cases hr
          · rename_i hne
            obtain rfl := Option.some.inj hr
            exact lv_idiv hx hb hdg hne (hN ls H locs hl hlen hP hS hX)
        | _ => cases hr
    | _ => cases hr
theorem s_irem (hdg : decode cc pc = .ok (.irem, 1)) : zSnd G L xs own cc nL ret pc (oRem (pc + 1)) := by
  intro p l e R s m args below meth c cells slots Q d C X lo st h r hr hN ls H locs hl hlen hP hS hX
  obtain ⟨hx, hb, hml, hown, hts, hK, hO, hJ, hrt, hlk⟩ := C
  unfold oRem at hr
  cases st with
  | nil => cases hr
  | cons v0 st =>
    cases v0 with
    | int x0 =>
      cases st with
      | nil => cases hr
      | cons v1 st =>
        cases v1 with
        | int x1 =>
          dsimp only at hr
          split at hr
          · cases hr
          · rename_i hne
            obtain rfl := Option.some.inj hr
            refine lv_irem hx hb hdg hne ?_
            rw [irem_eq_mod]
            exact (hN ls H locs hl hlen hP hS hX)
        | _ => cases hr
    | _ => cases hr
theorem s_ineg (hdg : decode cc pc = .ok (.ineg, 1)) : zSnd G L xs own cc nL ret pc (oUn (fun x => -x) (pc + 1)) := by
  intro p l e R s m args below meth c cells slots Q d C X lo st h r hr hN ls H locs hl hlen hP hS hX
  obtain ⟨hx, hb, hml, hown, hts, hK, hO, hJ, hrt, hlk⟩ := C
  unfold oUn at hr
  cases st with
  | nil => cases hr
  | cons v0 st =>
    cases v0 with
    | int x0 =>
      obtain rfl := Option.some.inj hr
      exact lv_ineg hx hb hdg (hN ls H locs hl hlen hP hS hX)
    | _ => cases hr
theorem s_i2b (hdg : decode cc pc = .ok (.i2b, 1)) : zSnd G L xs own cc nL ret pc (oUn (fun x => x.toInt8.toInt32) (pc + 1)) := by
  intro p l e R s m args below meth c cells slots Q d C X lo st h r hr hN ls H locs hl hlen hP hS hX
  obtain ⟨hx, hb, hml, hown, hts, hK, hO, hJ, hrt, hlk⟩ := C
  unfold oUn at hr
  cases st with
  | nil => cases hr
  | cons v0 st =>
    cases v0 with
    | int x0 =>
      obtain rfl := Option.some.inj hr
      exact lv_i2b hx hb hdg rfl (hN ls H locs hl hlen hP hS hX)
    | _ => cases hr
theorem s_i2s (hdg : decode cc pc = .ok (.i2s, 1)) : zSnd G L xs own cc nL ret pc (oUn (fun x => x.toInt16.toInt32) (pc + 1)) := by
  intro p l e R s m args below meth c cells slots Q d C X lo st h r hr hN ls H locs hl hlen hP hS hX
  obtain ⟨hx, hb, hml, hown, hts, hK, hO, hJ, hrt, hlk⟩ := C
  unfold oUn at hr
  cases st with
  | nil => cases hr
  | cons v0 st =>
    cases v0 with
    | int x0 =>
      obtain rfl := Option.some.inj hr
      exact lv_i2s hx hb hdg rfl (hN ls H locs hl hlen hP hS hX)
    | _ => cases hr
theorem s_i2c (hdg : decode cc pc = .ok (.i2c, 1)) : zSnd G L xs own cc nL ret pc (oUn (fun x => (x.toUInt32 % 65536).toInt32) (pc + 1)) := by
  intro p l e R s m args below meth c cells slots Q d C X lo st h r hr hN ls H locs hl hlen hP hS hX
  obtain ⟨hx, hb, hml, hown, hts, hK, hO, hJ, hrt, hlk⟩ := C
  unfold oUn at hr
  cases st with
  | nil => cases hr
  | cons v0 st =>
    cases v0 with
    | int x0 =>
      obtain rfl := Option.some.inj hr
      exact lv_i2c hx hb hdg rfl (hN ls H locs hl hlen hP hS hX)
    | _ => cases hr
theorem s_land (hdg : decode cc pc = .ok (.land, 1)) : zSnd G L xs own cc nL ret pc (oBinL (fun x y => x &&& y) (pc + 1)) := by
  intro p l e R s m args below meth c cells slots Q d C X lo st h r hr hN ls H locs hl hlen hP hS hX
  obtain ⟨hx, hb, hml, hown, hts, hK, hO, hJ, hrt, hlk⟩ := C
  unfold oBinL at hr
  cases st with
  | nil => cases hr
  | cons v0 st =>
    cases v0 with
    | long x0 =>
      cases st with
      | nil => cases hr
      | cons v1 st =>
        cases v1 with
        | long x1 =>
          obtain rfl := Option.some.inj hr
          exact lv_land hx hb hdg (hN ls H locs hl hlen hP hS hX)
        | _ => cases hr
    | _ => cases hr
theorem s_lor (hdg : decode cc pc = .ok (.lor, 1)) : zSnd G L xs own cc nL ret pc (oBinL (fun x y => x ||| y) (pc + 1)) := by
  intro p l e R s m args below meth c cells slots Q d C X lo st h r hr hN ls H locs hl hlen hP hS hX
  obtain ⟨hx, hb, hml, hown, hts, hK, hO, hJ, hrt, hlk⟩ := C
  unfold oBinL at hr
  cases st with
  | nil => cases hr
  | cons v0 st =>
    cases v0 with
    | long x0 =>
      cases st with
      | nil => cases hr
      | cons v1 st =>
        cases v1 with
        | long x1 =>
          obtain rfl := Option.some.inj hr
          exact lv_lor hx hb hdg (hN ls H locs hl hlen hP hS hX)
        | _ => cases hr
    | _ => cases hr
theorem s_lshl (hdg : decode cc pc = .ok (.lshl, 1)) : zSnd G L xs own cc nL ret pc (oShL (fun x y => x <<< (y.toInt64 &&& 63)) (pc + 1)) := by
  intro p l e R s m args below meth c cells slots Q d C X lo st h r hr hN ls H locs hl hlen hP hS hX
  obtain ⟨hx, hb, hml, hown, hts, hK, hO, hJ, hrt, hlk⟩ := C
  unfold oShL at hr
  cases st with
  | nil => cases hr
  | cons v0 st =>
    cases v0 with
    | int x0 =>
      cases st with
      | nil => cases hr
      | cons v1 st =>
        cases v1 with
        | long x1 =>
          obtain rfl := Option.some.inj hr
          exact lv_lshl hx hb hdg rfl (hN ls H locs hl hlen hP hS hX)
        | _ => cases hr
    | _ => cases hr
theorem s_lshr (hdg : decode cc pc = .ok (.lshr, 1)) : zSnd G L xs own cc nL ret pc (oShL (fun x y => x >>> (y.toInt64 &&& 63)) (pc + 1)) := by
  intro p l e R s m args below meth c cells slots Q d C X lo st h r hr hN ls H locs hl hlen hP hS hX
  obtain ⟨hx, hb, hml, hown, hts, hK, hO, hJ, hrt, hlk⟩ := C
  unfold oShL at hr
  cases st with
  | nil => cases hr
  | cons v0 st =>
    cases v0 with
    | int x0 =>
      cases st with
      | nil => cases hr
      | cons v1 st =>
        cases v1 with
        | long x1 =>
          obtain rfl := Option.some.inj hr
          exact lv_lshr hx hb hdg rfl (hN ls H locs hl hlen hP hS hX)
        | _ => cases hr
    | _ => cases hr
theorem s_lushr (hdg : decode cc pc = .ok (.lushr, 1)) : zSnd G L xs own cc nL ret pc (oShL (fun x y => (x.toUInt64 >>> (y.toInt64.toUInt64 &&& Int64.toUInt64 63)).toInt64) (pc + 1)) := by
  intro p l e R s m args below meth c cells slots Q d C X lo st h r hr hN ls H locs hl hlen hP hS hX
  obtain ⟨hx, hb, hml, hown, hts, hK, hO, hJ, hrt, hlk⟩ := C
  unfold oShL at hr
  cases st with
  | nil => cases hr
  | cons v0 st =>
    cases v0 with
    | int x0 =>
      cases st with
      | nil => cases hr
      | cons v1 st =>
        cases v1 with
        | long x1 =>
          obtain rfl := Option.some.inj hr
          exact lv_lushr hx hb hdg rfl (hN ls H locs hl hlen hP hS hX)
        | _ => cases hr
    | _ => cases hr
theorem s_i2l (hdg : decode cc pc = .ok (.i2l, 1)) : zSnd G L xs own cc nL ret pc (oI2l (pc + 1)) := by
  intro p l e R s m args below meth c cells slots Q d C X lo st h r hr hN ls H locs hl hlen hP hS hX
  obtain ⟨hx, hb, hml, hown, hts, hK, hO, hJ, hrt, hlk⟩ := C
  unfold oI2l at hr
  cases st with
  | nil => cases hr
  | cons v0 st =>
    cases v0 with
    | int x0 =>
      obtain rfl := Option.some.inj hr
      exact lv_i2l hx hb hdg rfl (hN ls H locs hl hlen hP hS hX)
    | _ => cases hr
theorem s_l2i (hdg : decode cc pc = .ok (.l2i, 1)) : zSnd G L xs own cc nL ret pc (oL2i (pc + 1)) := by
  intro p l e R s m args below meth c cells slots Q d C X lo st h r hr hN ls H locs hl hlen hP hS hX
  obtain ⟨hx, hb, hml, hown, hts, hK, hO, hJ, hrt, hlk⟩ := C
  unfold oL2i at hr
  cases st with
  | nil => cases hr
  | cons v0 st =>
    cases v0 with
    | long x0 =>
      obtain rfl := Option.some.inj hr
      exact lv_l2i hx hb hdg rfl (hN ls H locs hl hlen hP hS hX)
    | _ => cases hr
theorem s_ifeq {off : Int} {t : Nat} (hdg : decode cc pc = .ok (.ifCond .eq off, 3)) (ht : (pc : Int) + off = (t : Int)) : zSnd G L xs own cc nL ret pc (oEq0 t (pc + 3)) := by
  intro p l e R s m args below meth c cells slots Q d C X lo st h r hr hN ls H locs hl hlen hP hS hX
  obtain ⟨hx, hb, hml, hown, hts, hK, hO, hJ, hrt, hlk⟩ := C
  unfold oEq0 at hr
  cases st with
  | nil => cases hr
  | cons v0 st =>
    cases v0 with
    | int x0 =>
      dsimp only at hr
      split at hr
      · rename_i hc
        obtain rfl := Option.some.inj hr
        exact lv_if_eq hx hb hdg ht (fun z => (hN ls H locs hl hlen hP hS hX)) (fun z => absurd hc z)
      · rename_i hc
        obtain rfl := Option.some.inj hr
        exact lv_if_eq hx hb hdg ht (fun z => absurd z hc) (fun z => (hN ls H locs hl hlen hP hS hX))
    | _ => cases hr
theorem s_ifne {off : Int} {t : Nat} (hdg : decode cc pc = .ok (.ifCond .ne off, 3)) (ht : (pc : Int) + off = (t : Int)) : zSnd G L xs own cc nL ret pc (oNe0 t (pc + 3)) := by
  intro p l e R s m args below meth c cells slots Q d C X lo st h r hr hN ls H locs hl hlen hP hS hX
  obtain ⟨hx, hb, hml, hown, hts, hK, hO, hJ, hrt, hlk⟩ := C
  unfold oNe0 at hr
  cases st with
  | nil => cases hr
  | cons v0 st =>
    cases v0 with
    | int x0 =>
      dsimp only at hr
      split at hr
      · rename_i hc
        obtain rfl := Option.some.inj hr
        exact lv_if_ne hx hb hdg ht (fun z => absurd hc z) (fun z => (hN ls H locs hl hlen hP hS hX))
      · rename_i hc
        obtain rfl := Option.some.inj hr
        exact lv_if_ne hx hb hdg ht (fun z => (hN ls H locs hl hlen hP hS hX)) (fun z => absurd z hc)
    | _ => cases hr
theorem s_iflt {off : Int} {t : Nat} (hdg : decode cc pc = .ok (.ifCond .lt off, 3)) (ht : (pc : Int) + off = (t : Int)) : zSnd G L xs own cc nL ret pc (oLt0 t (pc + 3)) := by
  intro p l e R s m args below meth c cells slots Q d C X lo st h r hr hN ls H locs hl hlen hP hS hX
  obtain ⟨hx, hb, hml, hown, hts, hK, hO, hJ, hrt, hlk⟩ := C
  unfold oLt0 at hr
  cases st with
  | nil => cases hr
  | cons v0 st =>
    cases v0 with
    | int x0 =>
      dsimp only at hr
      split at hr
      · rename_i hc
        obtain rfl := Option.some.inj hr
        exact lv_if_lt hx hb hdg ht (fun z => (hN ls H locs hl hlen hP hS hX)) (fun z => absurd hc z)
      · rename_i hc
        obtain rfl := Option.some.inj hr
        exact lv_if_lt hx hb hdg ht (fun z => absurd z hc) (fun z => (hN ls H locs hl hlen hP hS hX))
    | _ => cases hr
theorem s_ifge {off : Int} {t : Nat} (hdg : decode cc pc = .ok (.ifCond .ge off, 3)) (ht : (pc : Int) + off = (t : Int)) : zSnd G L xs own cc nL ret pc (oGe0 t (pc + 3)) := by
  intro p l e R s m args below meth c cells slots Q d C X lo st h r hr hN ls H locs hl hlen hP hS hX
  obtain ⟨hx, hb, hml, hown, hts, hK, hO, hJ, hrt, hlk⟩ := C
  unfold oGe0 at hr
  cases st with
  | nil => cases hr
  | cons v0 st =>
    cases v0 with
    | int x0 =>
      dsimp only at hr
      split at hr
      · rename_i hc
        obtain rfl := Option.some.inj hr
        exact lv_if_ge hx hb hdg ht (fun z => (hN ls H locs hl hlen hP hS hX)) (fun z => absurd hc z)
      · rename_i hc
        obtain rfl := Option.some.inj hr
        exact lv_if_ge hx hb hdg ht (fun z => absurd z hc) (fun z => (hN ls H locs hl hlen hP hS hX))
    | _ => cases hr
theorem s_ifgt {off : Int} {t : Nat} (hdg : decode cc pc = .ok (.ifCond .gt off, 3)) (ht : (pc : Int) + off = (t : Int)) : zSnd G L xs own cc nL ret pc (oGt0 t (pc + 3)) := by
  intro p l e R s m args below meth c cells slots Q d C X lo st h r hr hN ls H locs hl hlen hP hS hX
  obtain ⟨hx, hb, hml, hown, hts, hK, hO, hJ, hrt, hlk⟩ := C
  unfold oGt0 at hr
  cases st with
  | nil => cases hr
  | cons v0 st =>
    cases v0 with
    | int x0 =>
      dsimp only at hr
      split at hr
      · rename_i hc
        obtain rfl := Option.some.inj hr
        exact lv_if_gt hx hb hdg ht (fun z => (hN ls H locs hl hlen hP hS hX)) (fun z => absurd hc z)
      · rename_i hc
        obtain rfl := Option.some.inj hr
        exact lv_if_gt hx hb hdg ht (fun z => absurd z hc) (fun z => (hN ls H locs hl hlen hP hS hX))
    | _ => cases hr
theorem s_ifle {off : Int} {t : Nat} (hdg : decode cc pc = .ok (.ifCond .le off, 3)) (ht : (pc : Int) + off = (t : Int)) : zSnd G L xs own cc nL ret pc (oLe0 t (pc + 3)) := by
  intro p l e R s m args below meth c cells slots Q d C X lo st h r hr hN ls H locs hl hlen hP hS hX
  obtain ⟨hx, hb, hml, hown, hts, hK, hO, hJ, hrt, hlk⟩ := C
  unfold oLe0 at hr
  cases st with
  | nil => cases hr
  | cons v0 st =>
    cases v0 with
    | int x0 =>
      dsimp only at hr
      split at hr
      · rename_i hc
        obtain rfl := Option.some.inj hr
        exact lv_if_le hx hb hdg ht (fun z => (hN ls H locs hl hlen hP hS hX)) (fun z => absurd hc z)
      · rename_i hc
        obtain rfl := Option.some.inj hr
        exact lv_if_le hx hb hdg ht (fun z => absurd z hc) (fun z => (hN ls H locs hl hlen hP hS hX))
    | _ => cases hr
theorem s_cmpeq {off : Int} {t : Nat} (hdg : decode cc pc = .ok (.if_icmp .eq off, 3)) (ht : (pc : Int) + off = (t : Int)) : zSnd G L xs own cc nL ret pc (oCEq t (pc + 3)) := by
  intro p l e R s m args below meth c cells slots Q d C X lo st h r hr hN ls H locs hl hlen hP hS hX
  obtain ⟨hx, hb, hml, hown, hts, hK, hO, hJ, hrt, hlk⟩ := C
  unfold oCEq at hr
  cases st with
  | nil => cases hr
  | cons v0 st =>
    cases v0 with
    | int x0 =>
      cases st with
      | nil => cases hr
      | cons v1 st =>
        cases v1 with
        | int x1 =>
          dsimp only at hr
          split at hr
          · rename_i hc
            obtain rfl := Option.some.inj hr
            exact lv_icmp_eq hx hb hdg ht (fun z => (hN ls H locs hl hlen hP hS hX)) (fun z => absurd hc z)
          · rename_i hc
            obtain rfl := Option.some.inj hr
            exact lv_icmp_eq hx hb hdg ht (fun z => absurd z hc) (fun z => (hN ls H locs hl hlen hP hS hX))
        | _ => cases hr
    | _ => cases hr
theorem s_cmpne {off : Int} {t : Nat} (hdg : decode cc pc = .ok (.if_icmp .ne off, 3)) (ht : (pc : Int) + off = (t : Int)) : zSnd G L xs own cc nL ret pc (oCNe t (pc + 3)) := by
  intro p l e R s m args below meth c cells slots Q d C X lo st h r hr hN ls H locs hl hlen hP hS hX
  obtain ⟨hx, hb, hml, hown, hts, hK, hO, hJ, hrt, hlk⟩ := C
  unfold oCNe at hr
  cases st with
  | nil => cases hr
  | cons v0 st =>
    cases v0 with
    | int x0 =>
      cases st with
      | nil => cases hr
      | cons v1 st =>
        cases v1 with
        | int x1 =>
          dsimp only at hr
          split at hr
          · rename_i hc
            obtain rfl := Option.some.inj hr
            exact lv_icmp_ne hx hb hdg ht (fun z => absurd hc z) (fun z => (hN ls H locs hl hlen hP hS hX))
          · rename_i hc
            obtain rfl := Option.some.inj hr
            exact lv_icmp_ne hx hb hdg ht (fun z => (hN ls H locs hl hlen hP hS hX)) (fun z => absurd z hc)
        | _ => cases hr
    | _ => cases hr
theorem s_cmplt {off : Int} {t : Nat} (hdg : decode cc pc = .ok (.if_icmp .lt off, 3)) (ht : (pc : Int) + off = (t : Int)) : zSnd G L xs own cc nL ret pc (oCLt t (pc + 3)) := by
  intro p l e R s m args below meth c cells slots Q d C X lo st h r hr hN ls H locs hl hlen hP hS hX
  obtain ⟨hx, hb, hml, hown, hts, hK, hO, hJ, hrt, hlk⟩ := C
  unfold oCLt at hr
  cases st with
  | nil => cases hr
  | cons v0 st =>
    cases v0 with
    | int x0 =>
      cases st with
      | nil => cases hr
      | cons v1 st =>
        cases v1 with
        | int x1 =>
          dsimp only at hr
          split at hr
          · rename_i hc
            obtain rfl := Option.some.inj hr
            exact lv_icmp_lt hx hb hdg ht (fun z => (hN ls H locs hl hlen hP hS hX)) (fun z => absurd hc z)
          · rename_i hc
            obtain rfl := Option.some.inj hr
            exact lv_icmp_lt hx hb hdg ht (fun z => absurd z hc) (fun z => (hN ls H locs hl hlen hP hS hX))
        | _ => cases hr
    | _ => cases hr
theorem s_cmpge {off : Int} {t : Nat} (hdg : decode cc pc = .ok (.if_icmp .ge off, 3)) (ht : (pc : Int) + off = (t : Int)) : zSnd G L xs own cc nL ret pc (oCGe t (pc + 3)) := by
  intro p l e R s m args below meth c cells slots Q d C X lo st h r hr hN ls H locs hl hlen hP hS hX
  obtain ⟨hx, hb, hml, hown, hts, hK, hO, hJ, hrt, hlk⟩ := C
  unfold oCGe at hr
  cases st with
  | nil => cases hr
  | cons v0 st =>
    cases v0 with
    | int x0 =>
      cases st with
      | nil => cases hr
      | cons v1 st =>
        cases v1 with
        | int x1 =>
          dsimp only at hr
          split at hr
          · rename_i hc
            obtain rfl := Option.some.inj hr
            exact lv_icmp_ge hx hb hdg ht (fun z => (hN ls H locs hl hlen hP hS hX)) (fun z => absurd hc z)
          · rename_i hc
            obtain rfl := Option.some.inj hr
            exact lv_icmp_ge hx hb hdg ht (fun z => absurd z hc) (fun z => (hN ls H locs hl hlen hP hS hX))
        | _ => cases hr
    | _ => cases hr
theorem s_cmpgt {off : Int} {t : Nat} (hdg : decode cc pc = .ok (.if_icmp .gt off, 3)) (ht : (pc : Int) + off = (t : Int)) : zSnd G L xs own cc nL ret pc (oCGt t (pc + 3)) := by
  intro p l e R s m args below meth c cells slots Q d C X lo st h r hr hN ls H locs hl hlen hP hS hX
  obtain ⟨hx, hb, hml, hown, hts, hK, hO, hJ, hrt, hlk⟩ := C
  unfold oCGt at hr
  cases st with
  | nil => cases hr
  | cons v0 st =>
    cases v0 with
    | int x0 =>
      cases st with
      | nil => cases hr
      | cons v1 st =>
        cases v1 with
        | int x1 =>
          dsimp only at hr
          split at hr
          · rename_i hc
            obtain rfl := Option.some.inj hr
            exact lv_icmp_gt hx hb hdg ht (fun z => (hN ls H locs hl hlen hP hS hX)) (fun z => absurd hc z)
          · rename_i hc
            obtain rfl := Option.some.inj hr
            exact lv_icmp_gt hx hb hdg ht (fun z => absurd z hc) (fun z => (hN ls H locs hl hlen hP hS hX))
        | _ => cases hr
    | _ => cases hr
theorem s_cmple {off : Int} {t : Nat} (hdg : decode cc pc = .ok (.if_icmp .le off, 3)) (ht : (pc : Int) + off = (t : Int)) : zSnd G L xs own cc nL ret pc (oCLe t (pc + 3)) := by
  intro p l e R s m args below meth c cells slots Q d C X lo st h r hr hN ls H locs hl hlen hP hS hX
  obtain ⟨hx, hb, hml, hown, hts, hK, hO, hJ, hrt, hlk⟩ := C
  unfold oCLe at hr
  cases st with
  | nil => cases hr
  | cons v0 st =>
    cases v0 with
    | int x0 =>
      cases st with
      | nil => cases hr
      | cons v1 st =>
        cases v1 with
        | int x1 =>
          dsimp only at hr
          split at hr
          · rename_i hc
            obtain rfl := Option.some.inj hr
            exact lv_icmp_le hx hb hdg ht (fun z => (hN ls H locs hl hlen hP hS hX)) (fun z => absurd hc z)
          · rename_i hc
            obtain rfl := Option.some.inj hr
            exact lv_icmp_le hx hb hdg ht (fun z => absurd z hc) (fun z => (hN ls H locs hl hlen hP hS hX))
        | _ => cases hr
    | _ => cases hr
theorem s_goto {off : Int} {t : Nat} (hdg : decode cc pc = .ok (.goto off, 3)) (ht : (pc : Int) + off = (t : Int)) : zSnd G L xs own cc nL ret pc (oGoto t) := by
  intro p l e R s m args below meth c cells slots Q d C X lo st h r hr hN ls H locs hl hlen hP hS hX
  obtain ⟨hx, hb, hml, hown, hts, hK, hO, hJ, hrt, hlk⟩ := C
  obtain rfl := Option.some.inj hr
  exact lv_goto hx hb hdg ht (hN ls H locs hl hlen hP hS hX)
theorem s_dup (hdg : decode cc pc = .ok (.dup, 1)) : zSnd G L xs own cc nL ret pc (oDup (pc + 1)) := by
  intro p l e R s m args below meth c cells slots Q d C X lo st h r hr hN ls H locs hl hlen hP hS hX
  obtain ⟨hx, hb, hml, hown, hts, hK, hO, hJ, hrt, hlk⟩ := C
  unfold oDup at hr
  cases st with
  | nil => cases hr
  | cons v0 st =>
    dsimp only at hr
    split at hr
    · rename_i hc
      obtain rfl := Option.some.inj hr
      exact lv_dup hx hb hdg ((zt_cat G v0).trans hc) (hN ls H locs hl hlen hP hS hX)
    · cases hr
theorem s_pop (hdg : decode cc pc = .ok (.pop, 1)) : zSnd G L xs own cc nL ret pc (oPop (pc + 1)) := by
  intro p l e R s m args below meth c cells slots Q d C X lo st h r hr hN ls H locs hl hlen hP hS hX
  obtain ⟨hx, hb, hml, hown, hts, hK, hO, hJ, hrt, hlk⟩ := C
  unfold oPop at hr
  cases st with
  | nil => cases hr
  | cons v0 st =>
    dsimp only at hr
    split at hr
    · rename_i hc
      obtain rfl := Option.some.inj hr
      exact lv_pop hx hb hdg ((zt_cat G v0).trans hc) (hN ls H locs hl hlen hP hS hX)
    · cases hr
theorem s_dup2 (hdg : decode cc pc = .ok (.dup2, 1)) : zSnd G L xs own cc nL ret pc (oDup2 (pc + 1)) := by
  intro p l e R s m args below meth c cells slots Q d C X lo st h r hr hN ls H locs hl hlen hP hS hX
  obtain ⟨hx, hb, hml, hown, hts, hK, hO, hJ, hrt, hlk⟩ := C
  unfold oDup2 at hr
  cases st with
  | nil => cases hr
  | cons v0 st =>
    cases st with
    | nil => cases hr
    | cons v1 st =>
      dsimp only at hr
      split at hr
      · rename_i hc
        obtain rfl := Option.some.inj hr
        exact lv_dup2_11 hx hb hdg ((zt_cat G v0).trans hc.1) ((zt_cat G v1).trans hc.2) (hN ls H locs hl hlen hP hS hX)
      · cases hr
end SND
