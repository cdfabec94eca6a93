/-! ===== new objects: rows ===== -/
def xA (b : Nat) : Nat → Prop := fun q => b ≤ q
/-- what has been made since the address b stands there, and nothing else -/
def xP (G : zG) (b : Nat) (cs : List va_E) (H : Heap) : Prop := H.size = b + cs.length ∧ ∀ (i : Nat) (x : va_E), cs[i]? = some x → va_at (zD G) vwCl (b + i, x) H
theorem xP.push {G : zG} {b : Nat} {cs : List va_E} {x : va_E} {H H1 : Heap} (h : xP G b cs H) (z : H1.size = H.size + 1) (o : ∀ q, q < H.size → H1[q]? = H[q]?) (n : va_at (zD G) vwCl (H.size, x) H1) : xP G b (cs ++ [x]) H1 := by
  obtain ⟨hs, hc⟩ := h
  refine ⟨by rw [z, hs, List.length_append]; rfl, fun i y hy => ?_⟩
  rcases Nat.lt_trichotomy i cs.length with k | k | k
  · rw [List.getElem?_append_left k] at hy
    exact (hc i y hy).kept (o _ (by show b + i < _; omega))
  · subst k
    rw [List.getElem?_append_right (Nat.le_refl _), Nat.sub_self] at hy
    cases hy
    rw [← hs]; exact n
  · rw [List.getElem?_append_right (by omega), List.getElem?_eq_none (by show 1 ≤ _; omega)] at hy
    cases hy
theorem xP.get {G : zG} {b : Nat} {l1 l2 : List va_E} {x : va_E} {H : Heap} (h : xP G b (l1 ++ x :: l2) H) : va_at (zD G) vwCl (b + l1.length, x) H :=
  h.2 _ _ (by rw [List.getElem?_append_right (Nat.le_refl _), Nat.sub_self]; rfl)
theorem xP.put {G : zG} {b : Nat} {l1 l2 : List va_E} {x x' : va_E} {H H1 : Heap} (h : xP G b (l1 ++ x :: l2) H) (z : H1.size = H.size) (o : ∀ q, q ≠ b + l1.length → H1[q]? = H[q]?) (n : va_at (zD G) vwCl (b + l1.length, x') H1) : xP G b (l1 ++ x' :: l2) H1 := by
  obtain ⟨hs, hc⟩ := h
  refine ⟨by rw [z, hs, List.length_append, List.length_append]; rfl, fun i y hy => ?_⟩
  rcases Nat.lt_trichotomy i l1.length with k | k | k
  · have hy' : (l1 ++ x :: l2)[i]? = some y := by
      rw [List.getElem?_append_left k] at hy ⊢
      exact hy
    exact (hc i y hy').kept (o _ (by show b + i ≠ _; omega))
  · subst k
    rw [List.getElem?_append_right (Nat.le_refl _), Nat.sub_self] at hy
    cases hy
    exact n
  · have hy' : (l1 ++ x :: l2)[i]? = some y := by
      rw [List.getElem?_append_right (by omega)] at hy ⊢
      rw [show i - l1.length = (i - l1.length - 1) + 1 by omega] at hy ⊢
      exact hy
    exact (hc i y hy').kept (o _ (by show b + i ≠ _; omega))
theorem xP.call {G : zG} {b : Nat} {l1 cs : List va_E} {x : va_E} {H H1 : Heap} (h : xP G b (l1 ++ [x]) H) (h1 : xP G (b + l1.length) cs H1) (o : ∀ q, q < b + l1.length → H1[q]? = H[q]?) : xP G b (l1 ++ cs) H1 := by
  refine ⟨by rw [h1.1, List.length_append]; omega, fun i y hy => ?_⟩
  rcases Nat.lt_or_ge i l1.length with k | k
  · have hy' : (l1 ++ [x])[i]? = some y := by
      rw [List.getElem?_append_left k] at hy ⊢
      exact hy
    exact (h.2 i y hy').kept (o _ (by show b + i < _; omega))
  · rw [List.getElem?_append_right k] at hy
    have := h1.2 _ _ hy
    rw [show b + l1.length + (i - l1.length) = b + i by omega] at this
    exact this
theorem xP.last {G : zG} {b : Nat} {l1 : List va_E} {x : va_E} {H : Heap} (h : xP G b (l1 ++ [x]) H) : xP G (b + l1.length) [x] H := by
  refine ⟨by rw [h.1, List.length_append]; show b + (l1.length + 1) = b + l1.length + 1; omega, fun i y hy => ?_⟩
  have i0 : i = 0 := by
    rcases Nat.eq_zero_or_pos i with k | k
    · exact k
    · rw [List.getElem?_eq_none (by show 1 ≤ i; omega)] at hy; cases hy
  subst i0
  cases hy
  exact h.get
theorem xS_push {A : Nat → Prop} {H0 H H1 : Heap} {locs : List Loc} (h : va_S A H0 H locs) (z : H.size ≤ H1.size) (o : ∀ q, q < H.size → H1[q]? = H[q]?) : va_S A H0 H1 locs :=
  ⟨Nat.le_trans h.1 z, fun x h1 h2 => (o x (Nat.lt_of_lt_of_le h1 h.1)).trans (h.2.1 x h1 h2), h.2.2⟩
theorem xS_mono {b b1 : Nat} {H0 H : Heap} {locs : List Loc} (hb : b ≤ b1) (h : va_S (xA b1) H0 H locs) : va_S (xA b) H0 H locs :=
  ⟨h.1, fun q h1 h2 => h.2.1 q h1 fun w => h2 (Nat.le_trans hb w), fun q hq => Nat.le_trans hb (h.2.2 q hq)⟩
def xmn : List (String × Nat × MethodName) := [(RX6, 9, yX5_init), (RX6, 24, yX0_init), (RX6, 31, yX3_init), (RX6, 38, yX1_init), (RX6, 45, yX2_init), (RX0, 11, yX4_init), (RX5, 25, yX4_init)]
/-- what stands outside while objects are made -/
def xFO (G : zG) (b : Nat) (U : State) : Prop :=
  va_Z "java/lang/String" "COMPACT_STRINGS" "Z" (.int 1) (xA b) U U.heap ∧
  vk_S 9 zlen zbyt (fun i => zad G (314 + 2 * i)) (fun i => zad G (315 + 2 * i)) (xA b) U U.heap ∧
  (∀ q ∈ zstr, vk_R q.1 q.2.1 q.2.2.1 (zad G (314 + 2 * q.2.2.2)) U) ∧
  (∀ q ∈ xmn, va_Nw (.methodLinkNest q.1 q.2.1 q.2.2 "LoudMarket") U) ∧
  (Cond.arrayOver (.array .int)).before #[] U = true ∧ va_AO RX2 U
theorem xFO.moved {G : zG} {b : Nat} {s U : State} (h : xFO G b s) (hW : s.WarmedH U.vm) {locs : List Loc} (hS : va_S (xA b) s.heap U.heap locs) : xFO G b U := by
  obtain ⟨h1, h2, h3, h4, h5, h6⟩ := h
  exact ⟨(h1.moved hW.alike).kept hS.2.1, (h2.moved hW.alike).kept hS.2.1, fun q hq => (h3 q hq).warm hW, fun q hq => va_Nw.warmM hW (h4 q hq), over_moved hW.alike h5, va_AO.moved hW.alike h6⟩
theorem xFO.calling {G : zG} {b : Nat} {U : State} (g : JFrame) (mk : MethodId) (a : Array Value) (h : xFO G b U) : xFO G b (U.calling g mk a) := by
  obtain ⟨h1, h2, h3, h4, h5, h6⟩ := h
  have hv : U.vm.Alike (U.calling g mk a).vm := Vm.Alike.refl U.vm
  exact ⟨va_Z.moved (U := U.calling g mk a) hv h1, vk_S.moved hv h2, fun q hq => vk_R.same rfl (h3 q hq), fun q hq => va_Nw.same rfl rfl (h4 q hq), over_moved hv h5, va_AO.moved hv h6⟩
def xC (G : zG) (b b1 : Nat) (own : String) (cc : ByteArray) (nL : Nat) (p : Program) (s : State) (m : MethodId) (args : Array Value) (meth : Method) (c : Code) : Prop := (p.tables.exec = Jvm.exec) ∧ (c.code = cc) ∧ (c.maxLocals = nL) ∧ (s.vm.findClass own = some m.cls) ∧ (∀ w ∈ zgt, w.before args s = true) ∧ (va_K (zD G) vwCl (ztys G) s) ∧ (xFO G b s) ∧ (b ≤ b1) ∧ (b1 ≤ s.heap.size) ∧ (meth.locks = false)
theorem xC.hx {G : zG} {b b1 : Nat} {own : String} {cc : ByteArray} {nL : Nat} {p : Program} {s : State} {m : MethodId} {args : Array Value} {meth : Method} {c : Code} (C : xC G b b1 own cc nL p s m args meth c) : p.tables.exec = Jvm.exec := C.1
theorem xC.hb {G : zG} {b b1 : Nat} {own : String} {cc : ByteArray} {nL : Nat} {p : Program} {s : State} {m : MethodId} {args : Array Value} {meth : Method} {c : Code} (C : xC G b b1 own cc nL p s m args meth c) : c.code = cc := C.2.1
theorem xC.hml {G : zG} {b b1 : Nat} {own : String} {cc : ByteArray} {nL : Nat} {p : Program} {s : State} {m : MethodId} {args : Array Value} {meth : Method} {c : Code} (C : xC G b b1 own cc nL p s m args meth c) : c.maxLocals = nL := C.2.2.1
theorem xC.hown {G : zG} {b b1 : Nat} {own : String} {cc : ByteArray} {nL : Nat} {p : Program} {s : State} {m : MethodId} {args : Array Value} {meth : Method} {c : Code} (C : xC G b b1 own cc nL p s m args meth c) : s.vm.findClass own = some m.cls := C.2.2.2.1
theorem xC.hts {G : zG} {b b1 : Nat} {own : String} {cc : ByteArray} {nL : Nat} {p : Program} {s : State} {m : MethodId} {args : Array Value} {meth : Method} {c : Code} (C : xC G b b1 own cc nL p s m args meth c) : ∀ w ∈ zgt, w.before args s = true := C.2.2.2.2.1
theorem xC.hK {G : zG} {b b1 : Nat} {own : String} {cc : ByteArray} {nL : Nat} {p : Program} {s : State} {m : MethodId} {args : Array Value} {meth : Method} {c : Code} (C : xC G b b1 own cc nL p s m args meth c) : va_K (zD G) vwCl (ztys G) s := C.2.2.2.2.2.1
theorem xC.hF {G : zG} {b b1 : Nat} {own : String} {cc : ByteArray} {nL : Nat} {p : Program} {s : State} {m : MethodId} {args : Array Value} {meth : Method} {c : Code} (C : xC G b b1 own cc nL p s m args meth c) : xFO G b s := C.2.2.2.2.2.2.1
theorem xC.hle {G : zG} {b b1 : Nat} {own : String} {cc : ByteArray} {nL : Nat} {p : Program} {s : State} {m : MethodId} {args : Array Value} {meth : Method} {c : Code} (C : xC G b b1 own cc nL p s m args meth c) : b ≤ b1 := C.2.2.2.2.2.2.2.1
theorem xC.hA {G : zG} {b b1 : Nat} {own : String} {cc : ByteArray} {nL : Nat} {p : Program} {s : State} {m : MethodId} {args : Array Value} {meth : Method} {c : Code} (C : xC G b b1 own cc nL p s m args meth c) : b1 ≤ s.heap.size := C.2.2.2.2.2.2.2.2.1
theorem xC.hlk {G : zG} {b b1 : Nat} {own : String} {cc : ByteArray} {nL : Nat} {p : Program} {s : State} {m : MethodId} {args : Array Value} {meth : Method} {c : Code} (C : xC G b b1 own cc nL p s m args meth c) : meth.locks = false := C.2.2.2.2.2.2.2.2.2
def xW (G : zG) (b1 : Nat) (p : Program) (l : Launch) (e : Env) (R : Room) (s : State) (m : MethodId) (args : Array Value) (below : List Frame) (meth : Method) (c : Code) (Q : State → Prop) (pc : Nat) (ls : Array Slot) (st : List Value) (cs : List va_E) (cells slots : Nat) : Prop :=
  ∀ (H : Heap) (locs : List Loc), xP G b1 cs H → va_S (xA b1) s.heap H locs → W p l e R s m args below meth c H locs cells slots Q (F0 m pc ls st)
section XR
variable {G : zG} {b b1 : Nat} {own : String} {cc : ByteArray} {nL : Nat} {p : Program} {l : Launch} {e : Env} {R : Room} {s : State} {m : MethodId} {args : Array Value} {below : List Frame} {meth : Method} {c : Code} {Q : State → Prop} {pc : Nat} {ls : Array Slot} {rest : List Value} {cs : List va_E} {cells slots : Nat}
theorem xw_aload (C : xC G b b1 own cc nL p s m args meth c) {k : Fin 4} {i x : Nat} (hdg : decode cc pc = .ok (.aload_n k, 1)) (hi : (k : Nat) = i) (hl : ls[i]? = some (.val (.ref x))) (kk : xW G b1 p l e R s m args below meth c Q (pc + 1) ls (.ref x :: rest) cs cells slots) : xW G b1 p l e R s m args below meth c Q pc ls rest cs cells slots :=
  fun H locs hP hS => lv_aload_n C.hx C.hb hdg hi hl (kk H locs hP hS)
theorem xw_iconst (C : xC G b b1 own cc nL p s m args meth c) {n : Int} {v : Int32} (hdg : decode cc pc = .ok (.iconst n, 1)) (hv : Int32.ofInt n = v) (kk : xW G b1 p l e R s m args below meth c Q (pc + 1) ls (.int v :: rest) cs cells slots) : xW G b1 p l e R s m args below meth c Q pc ls rest cs cells slots :=
  fun H locs hP hS => lv_iconst C.hx C.hb hdg hv (kk H locs hP hS)
theorem xw_bipush (C : xC G b b1 own cc nL p s m args meth c) {n : Int} {v : Int32} (hdg : decode cc pc = .ok (.bipush n, 2)) (hv : (Int8.ofInt n).toInt32 = v) (kk : xW G b1 p l e R s m args below meth c Q (pc + 2) ls (.int v :: rest) cs cells slots) : xW G b1 p l e R s m args below meth c Q pc ls rest cs cells slots :=
  fun H locs hP hS => lv_bipush C.hx C.hb hdg hv (kk H locs hP hS)
theorem xw_sipush (C : xC G b b1 own cc nL p s m args meth c) {n : Int} {v : Int32} (hdg : decode cc pc = .ok (.sipush n, 3)) (hv : (Int16.ofInt n).toInt32 = v) (kk : xW G b1 p l e R s m args below meth c Q (pc + 3) ls (.int v :: rest) cs cells slots) : xW G b1 p l e R s m args below meth c Q pc ls rest cs cells slots :=
  fun H locs hP hS => lv_sipush C.hx C.hb hdg hv (kk H locs hP hS)
theorem xw_dup (C : xC G b b1 own cc nL p s m args meth c) {va : Value} (hdg : decode cc pc = .ok (.dup, 1)) (hva : va.category = 1) (kk : xW G b1 p l e R s m args below meth c Q (pc + 1) ls (va :: va :: rest) cs cells slots) : xW G b1 p l e R s m args below meth c Q pc ls (va :: rest) cs cells slots :=
  fun H locs hP hS => lv_dup C.hx C.hb hdg hva (kk H locs hP hS)
theorem xw_ldcS (C : xC G b b1 own cc nL p s m args meth c) {i t : Nat} {tx : String} (hq : (own, i, tx, t) ∈ zstr) (hdg : decode cc pc = .ok (.ldc i, 2)) (kk : xW G b1 p l e R s m args below meth c Q (pc + 2) ls (.ref (zad G (314 + 2 * t)) :: rest) cs cells slots) : xW G b1 p l e R s m args below meth c Q pc ls rest cs cells slots :=
  fun H locs hP hS => by
    have h1 : vk_R own i tx (zad G (314 + 2 * t)) s := C.hF.2.2.1 (own, i, tx, t) hq
    exact va_ldcS C.hx C.hb C.hown h1 hdg (kk H locs hP hS)
theorem xw_obj (C : xC G b b1 own cc nL p s m args meth c) {idx a : Nat} (hsz : ls.size = nL) (h1 : Cond.methodLink own idx Lib.objectInit ∈ zgt) (h2 : Cond.instanceMethod Lib.objectInit ∈ zgt) (h3 : Cond.code Lib.objectInit ⟨#[0xb1]⟩ 1 none ∈ zgt) (hdg : decode cc pc = .ok (.invokespecial idx, 3)) (hf : 1 ≤ R.frames) (hl : 2 * 0 + (rest.map fun v => v.category).sum + 12 ≤ R.locals) (kk : xW G b1 p l e R s m args below meth c Q (pc + 3) ls rest cs cells slots) : xW G b1 p l e R s m args below meth c Q pc ls (.ref a :: rest) cs cells slots :=
  fun H locs hP hS => W.objInit C.hx C.hb C.hown (C.hts _ h1) (C.hts _ h2) (C.hts _ h3) rfl (by rw [C.hml]; exact hsz) rfl hdg hf hl (kk H locs hP hS)
theorem xw_new (C : xC G b b1 own cc nL p s m args meth c) {C1 : String} {T : u_T} {N ci index n : Nat} (ty : Nat → FieldType) (hty : ∀ k, k < N → parseFieldDescriptor (T k).2.2.1 = some (ty k)) (hin : ∀ w ∈ u_ws C1 T N, w ∈ zgt) (hc : vwCl[ci]? = some (C1, T, N)) (h1 : Cond.classLink own index C1 ∈ zgt) (h2 : Cond.instantiable C1 N ∈ zgt) (h3 : Cond.initialized C1 ∈ zgt) {fs : List Value} (hfs : ∀ j, j < N → defaultValue (ty j) = vp_V fs j) (hcells : cells + 1 ≤ R.cells) (hslots : slots + N ≤ R.slots) (hdg : decode cc pc = .ok (.new index, 3)) (hn : cs.length = n) {cs' : List va_E} (he : cs ++ [.inr (ci, fs)] = cs')
    (kk : xW G b1 p l e R s m args below meth c Q (pc + 3) ls (.ref (b1 + n) :: rest) cs' (cells + 1) (slots + N)) : xW G b1 p l e R s m args below meth c Q pc ls rest cs cells slots := by
  intro H locs hP hS
  subst he
  have hKn := C.hK.1 ci _ hc
  have hz : H.size = b1 + n := by rw [hP.1, hn]
  refine W.newcK C.hx C.hb C.hown (C.hts _ h1) (C.hts _ h2) (C.hts _ h3) rfl hdg hcells hslots hKn.2.1 rfl fun H1 kC hkC e1 z1 o1 => ?_
  have k := kk H1 locs (hP.push z1 o1 (x := .inr (ci, fs)) ⟨_, hc, (u_born ty C.hts hin hKn hkC e1 hty).to hfs⟩) (xS_push hS (by omega) o1)
  rw [← hz] at k
  exact k
theorem xw_newa (C : xC G b b1 own cc nL p s m args meth c) {n N' : Nat} {v : Int32} (h1 : Cond.arrayClass .int ∈ zgt) (hv : ¬ v < 0) (hN : v.toNatClampNeg = N') (hbytes : N' * 4 ≤ 536870912) (hcells : cells + 1 ≤ R.cells) (hslots : slots + N' ≤ R.slots) (hdg : decode cc pc = .ok (.newarray .int, 2)) (hn : cs.length = n) {cs' : List va_E} (he : cs ++ [.inl (G.2.2.1, N', .inl fun _ => nI 0)] = cs')
    (kk : xW G b1 p l e R s m args below meth c Q (pc + 2) ls (.ref (b1 + n) :: rest) cs' (cells + 1) (slots + N')) : xW G b1 p l e R s m args below meth c Q pc ls (.int v :: rest) cs cells slots := by
  intro H locs hP hS
  subst he
  have hz : H.size = b1 + n := by rw [hP.1, hn]
  refine va_newaK C.hx C.hb (atype := .int) (C.hts _ h1) rfl hdg rfl hv hN hbytes hcells hslots rfl fun H1 cA e1 z1 o1 hAr hNm => ?_
  have hcA : cA = G.2.2.1 := Option.some.inj (hNm.symm.trans (C.hK.2 0 (G.2.2.1, .int) rfl).2)
  subst hcA
  have k := kk H1 locs (hP.push z1 o1 (x := .inl (G.2.2.1, N', .inl fun _ => nI 0)) e1) (xS_push hS (by omega) o1)
  rw [← hz] at k
  exact k
theorem xw_newq (C : xC G b b1 own cc nL p s m args meth c) {index n N' : Nat} {v : Int32} (h1 : Cond.classLink own index RX2 ∈ zgt) (hv : ¬ v < 0) (hN : v.toNatClampNeg = N') (hbytes : N' * 4 ≤ 536870912) (hcells : cells + 1 ≤ R.cells) (hslots : slots + N' ≤ R.slots) (hdg : decode cc pc = .ok (.anewarray index, 3)) (hn : cs.length = n) {cs' : List va_E} (he : cs ++ [.inl (G.2.2.2.1 2, N', .inr (.inr (.inr (.inr fun _ => none))))] = cs')
    (kk : xW G b1 p l e R s m args below meth c Q (pc + 3) ls (.ref (b1 + n) :: rest) cs' (cells + 1) (slots + N')) : xW G b1 p l e R s m args below meth c Q pc ls (.int v :: rest) cs cells slots := by
  intro H locs hP hS
  subst he
  subst hN
  have hz : H.size = b1 + n := by rw [hP.1, hn]
  refine W.anew C.hx C.hb C.hown (C.hts _ h1) (va_AO.use C.hF.2.2.2.2.2) rfl hdg rfl hv hbytes hcells hslots fun cA kA comp f1 f2 f3 f4 => ?_
  obtain ⟨kA', comp', -, -, -, g4⟩ := (C.hK.2 2 (G.2.2.2.1 2, .object RX2) rfl).2
  have hcA : cA = G.2.2.2.1 2 := Option.some.inj (f1.symm.trans g4)
  subst hcA
  have o1 : ∀ q : Nat, q < H.size → (H.push ({ cls := G.2.2.2.1 2, slots := Array.replicate v.toNatClampNeg .null, vm := .none } : Cell))[q]? = H[q]? := fun q hq => by rw [Array.getElem?_push, if_neg (Nat.ne_of_lt hq)]
  have k := kk _ locs (hP.push (Array.size_push ..) o1 (x := .inl (G.2.2.2.1 2, v.toNatClampNeg, .inr (.inr (.inr (.inr fun _ => none))))) (by
    show (H.push _)[H.size]? = some (vp_cell _ _)
    rw [Array.getElem?_push_size, vp_cell_q, ← arrV_new]
    rfl)) (xS_push hS (by rw [Array.size_push]; omega) o1)
  rw [← hz] at k
  exact k
/-- the rows of a new T[n][m] -/
def xrow (a N : Nat) : Nat → Option Nat := fun i => if i < N then some (a + 1 + i) else none
theorem xouter (c : ClassId) (N h0 : Nat) : ∀ i : Nat, Jvm.Free.Multi.outerC c N h0 i = arrV c N (fun j => va_rf (if j < i then some (h0 + 1 + j) else none))
  | 0 => by
    rw [Jvm.Free.Multi.outerC.eq_1]
    show ({ cls := c, slots := Array.replicate N .null, vm := .none } : Cell) = _
    rw [arrV_new]
    refine congrArg (arrV c N) (funext fun j => ?_)
    rw [if_neg (Nat.not_lt_zero _)]
    rfl
  | i + 1 => by
    rw [Jvm.Free.Multi.outerC.eq_2, xouter c N h0 i, arrV_store]
    refine congrArg (arrV c N) (funext fun j => ?_)
    unfold updV
    by_cases e : j = i
    · subst e
      rw [if_pos rfl, if_pos (Nat.lt_succ_self _)]
      rfl
    · rw [if_neg e]
      show va_rf (if j < i then some (h0 + 1 + j) else none) = va_rf (if j < i + 1 then some (h0 + 1 + j) else none)
      by_cases h : j < i
      · rw [if_pos h, if_pos (by omega)]
      · rw [if_neg h, if_neg (by omega)]
theorem xw_multi (C : xC G b b1 own cc nL p s m args meth c) {index n N' K' : Nat} {v w : Int32} (h1 : Cond.classLink own index "[[I" ∈ zgt) (h2 : Cond.arrayClass .int ∈ zgt) (hv : ¬ v < 0) (hw : ¬ w < 0) (hN : v.toNatClampNeg = N') (hM : w.toNatClampNeg = K') (hb1 : N' * 4 ≤ 536870912) (hb2 : K' * 4 ≤ 536870912) (hb3 : K' ≤ 536870912) (hcells : cells + (1 + N') ≤ R.cells) (hslots : slots + (N' + N' * K') ≤ R.slots) (hdg : decode cc pc = .ok (.multianewarray index 2, 4)) (hn : cs.length = n) {cs' : List va_E} (he : cs ++ (.inl (G.2.2.2.1 1, N', .inr (.inr (.inr (.inr (xrow (b1 + n) N'))))) :: List.replicate N' (.inl (G.2.2.1, K', .inl fun _ => nI 0))) = cs')
    (kk : xW G b1 p l e R s m args below meth c Q (pc + 4) ls (.ref (b1 + n) :: rest) cs' (cells + 1 + N') (slots + N' + N' * K')) : xW G b1 p l e R s m args below meth c Q pc ls (.int w :: .int v :: rest) cs cells slots := by
  intro H locs hP hS
  subst he
  subst hN
  subst hM
  have hz : H.size = b1 + n := by rw [hP.1, hn]
  intro T hT X
  obtain ⟨vm₁, cA, comp, -, fA, fC, X', step⟩ := X.multianewarray2 C.hx C.hown (ty := .int) (C.hts _ h1) (over_moved (Vm.Alike.refl s.vm) C.hF.2.2.2.2.1) (C.hts _ h2) (g := F0 m pc ls (.int w :: .int v :: rest)) rfl (by rw [C.hb]; exact hdg) rfl hv hw hb1 hb2 hb3 rfl rfl hcells hslots
  have hcA : cA = G.2.2.2.1 1 := Option.some.inj (fA.symm.trans (C.hK.2 1 (G.2.2.2.1 1, .array .int) rfl).2)
  have hcI : comp = G.2.2.1 := Option.some.inj (fC.symm.trans (C.hK.2 0 (G.2.2.1, .int) rfl).2)
  subst hcA
  subst hcI
  have hTh : (T.setVm vm₁).heap = H := hT
  obtain ⟨f1, f2, -, -⟩ := Jvm.Free.Multi.fill_facts (T.setVm vm₁) (G.2.2.2.1 1) G.2.2.1 v.toNatClampNeg w.toNatClampNeg (defaultValue .int) v.toNatClampNeg
  have hold : ∀ x : Nat, x < H.size → (Jvm.Free.Multi.fill (T.setVm vm₁) (G.2.2.2.1 1) G.2.2.1 v.toNatClampNeg w.toNatClampNeg (defaultValue .int) v.toNatClampNeg).heap[x]? = H[x]? := fun x hx => by
    have := Jvm.Free.Multi.fill_old (T.setVm vm₁) (G.2.2.2.1 1) G.2.2.1 v.toNatClampNeg w.toNatClampNeg (defaultValue .int) (a := x) (by rw [hTh]; exact hx) v.toNatClampNeg
    rw [hTh] at this
    exact this
  have hrow : ∀ j : Nat, j < v.toNatClampNeg → (Jvm.Free.Multi.fill (T.setVm vm₁) (G.2.2.2.1 1) G.2.2.1 v.toNatClampNeg w.toNatClampNeg (defaultValue .int) v.toNatClampNeg).heap[H.size + 1 + j]? = some (vp_cell G.2.2.1 (w.toNatClampNeg, .inl fun _ => nI 0)) := fun j hj => by
    have := Jvm.Free.Multi.fill_inner (T.setVm vm₁) (G.2.2.2.1 1) G.2.2.1 v.toNatClampNeg w.toNatClampNeg (defaultValue .int) v.toNatClampNeg j hj
    rw [hTh] at this
    rw [this, vp_cell_i, ← arrV_new]
    rfl
  rw [hTh] at f1 f2
  rw [xouter] at f2
  have hT1 : T.heap.size = b1 + n := by rw [hT]; exact hz
  have hPn : xP G b1 (cs ++ (.inl (G.2.2.2.1 1, v.toNatClampNeg, .inr (.inr (.inr (.inr (xrow (b1 + n) v.toNatClampNeg))))) :: List.replicate v.toNatClampNeg (.inl (G.2.2.1, w.toNatClampNeg, .inl fun _ => nI 0)))) (Jvm.Free.Multi.fill (T.setVm vm₁) (G.2.2.2.1 1) G.2.2.1 v.toNatClampNeg w.toNatClampNeg (defaultValue .int) v.toNatClampNeg).heap := by
    refine ⟨by rw [f1, hP.1, List.length_append, List.length_cons, List.length_replicate]; omega, fun i y hy => ?_⟩
    rcases Nat.lt_trichotomy i cs.length with k | k | k
    · rw [List.getElem?_append_left k] at hy
      exact (hP.2 i y hy).kept (hold _ (by show b1 + i < _; omega))
    · subst k
      rw [List.getElem?_append_right (Nat.le_refl _), Nat.sub_self] at hy
      cases hy
      show _ = some (vp_cell _ _)
      rw [vp_cell_q, ← hP.1, f2]
      rw [hz]
      rfl
    · rw [List.getElem?_append_right (by omega), show i - cs.length = (i - cs.length - 1) + 1 by omega] at hy
      have hy' : (List.replicate v.toNatClampNeg (.inl (G.2.2.1, w.toNatClampNeg, .inl fun _ => nI 0) : va_E))[i - cs.length - 1]? = some y := hy
      rw [List.getElem?_replicate] at hy'
      split at hy'
      · rename_i hlt
        cases hy'
        show _ = some (vp_cell _ _)
        rw [← hrow _ hlt, show b1 + i = H.size + 1 + (i - cs.length - 1) by rw [hP.1]; omega]
      · cases hy'
  have hSn : va_S (xA b1) s.heap (Jvm.Free.Multi.fill (T.setVm vm₁) (G.2.2.2.1 1) G.2.2.1 v.toNatClampNeg w.toNatClampNeg (defaultValue .int) v.toNatClampNeg).heap (locs ++ List.map (fun j => ({ base := T.heap.size, slot := j } : Loc)) (List.range v.toNatClampNeg)) := by
    obtain ⟨a1, a2, a3⟩ := xS_push hS (by rw [f1]; omega) hold
    refine ⟨a1, a2, fun q hq => ?_⟩
    rcases List.mem_append.mp hq with h | h
    · exact a3 q h
    · obtain ⟨j, -, rfl⟩ := List.mem_map.mp h
      show b1 ≤ T.heap.size
      omega
  obtain ⟨t2, a1, b2⟩ := kk _ _ hPn hSn _ rfl X'
  refine ⟨t2, step t2 ?_, b2⟩
  rw [← hT1] at a1
  exact a1
theorem xw_put (C : xC G b b1 own cc nL p s m args meth c) {C1 : String} {T : u_T} {N ci index : Nat} (ty0 : Nat → FieldType) (hty : ∀ k, k < N → parseFieldDescriptor (T k).2.2.1 = some (ty0 k)) (hnm : ∀ a, a < N → ∀ b, b < N → a ≠ b → (T a).2.1 ≠ (T b).2.1) (hin : ∀ w ∈ u_ws C1 T N, w ∈ zgt) (hc : vwCl[ci]? = some (C1, T, N)) (k : Nat) (hk : k < N) (hlink : Cond.fieldLink own index (T k).1 (T k).2.1 (T k).2.2.1 ∈ zgt) (hfin : (T k).2.2.2 = true → meth.name = "<init>" ∧ (T k).1 = own) {v : Value} (hn : narrow (ty0 k) v = v) (hfit : fits (ty0 k) v = true) {fs fs' : List Value} (hl : k < fs.length) (he : fs.set k v = fs') {r : List va_E} (hdg : decode cc pc = .ok (.putfield index, 3))
    (kk : xW G b1 p l e R s m args below meth c Q (pc + 3) ls rest (.inr (ci, fs') :: r) cells slots) : xW G b1 p l e R s m args below meth c Q pc ls (v :: .ref b1 :: rest) (.inr (ci, fs) :: r) cells slots := by
  intro H locs hP hS
  subst he
  have hap := va_apart (own := own) C.hts hin ty0 hty hnm C.hK hc
  have hP0 : va_at (zD G) vwCl (b1 + 0, .inr (ci, fs)) H := hP.2 0 _ rfl
  rw [Nat.add_zero] at hP0
  obtain ⟨r', g1, cell, q1, q2, q3, q4⟩ := hP0
  have hr : r' = (C1, T, N) := Option.some.inj (g1.symm.trans hc)
  subst hr
  obtain ⟨hSl, hfc, kC, hkC, hkind⟩ := C.hK.1 ci _ hc
  obtain ⟨cf, kf, fi, f, hi, hsl⟩ := hSl k hk
  have hlay := C.hts _ (hin _ (u_in_lay hk))
  have hst := (u_facts hfc hkC (u_lays C.hts hin hk) hi).1
  have fin : ∀ H' : Heap, H'[b1]? = some (cell.setSlot f.slot v) → H'.size = H.size → (∀ q, q ≠ b1 → H'[q]? = H[q]?) → W p l e R s m args below meth c H' (locs ++ [⟨b1, f.slot⟩]) cells slots Q (F0 m (pc + 3) ls rest) := fun H' e1 e2 e3 => by
    rw [hsl] at e1 ⊢
    refine kk H' _ (xP.put (l1 := []) hP e2 (fun q hq => e3 q hq) ?_) (hS.put e2 e3 (Nat.le_refl b1))
    exact ⟨_, hc, t_OB.to (V := updV (vp_V fs) k v) ⟨_, e1, q2, q3, t_set q4 hap hk v⟩ (fun j _ => vp_updV_set hl v j)⟩
  unfold u_lay at hlay
  by_cases hf : (T k).2.2.2 = true
  · rw [if_pos hf] at hlay
    obtain ⟨hin2, hdecl⟩ := hfin hf
    have hcf : m.cls = cf := by
      obtain ⟨_, _, c', _, _, _, -, -, hf', -, -, -, hown2, -⟩ := Cond.laysFinal_spec hlay
      have e1 : c' = cf := by have := hi.symm.trans hf'; simp at this; exact this.1.symm
      rw [hdecl] at hown2
      rw [← e1]; exact Option.some.inj (C.hown.symm.trans hown2)
    have h6 := u_fits hfc hkC hkind (Or.inr hlay) hi (hty k hk) hn hfit
    exact W.putFinK C.hx C.hb C.hown (C.hts _ hlink) hi hst hcf hin2 (by rw [q2]; exact h6) q1 q3 (by rw [hsl]; exact k2_hasslot (q4 k hk)) rfl rfl hdg fin
  · rw [if_neg hf] at hlay
    have h6 := u_store hfc hkC hkind hlay hi (hty k hk) hn hfit
    exact W.putK C.hx C.hb (f := f) ⟨C.hown, C.hts _ hlink, ⟨_, _, _, hi⟩, hst⟩ (by rw [q2]; exact h6) q1 q3 (by rw [hsl]; exact k2_hasslot (q4 k hk)) rfl rfl hdg fin
theorem xw_iast (C : xC G b b1 own cc nL p s m args meth c) {l1 l2 cs' : List va_E} {N' a : Nat} {f : Nat → Int32} {i x : Int32} (hcs : cs = l1 ++ .inl (G.2.2.1, N', .inl f) :: l2) (ha : a = b1 + l1.length) (hin : vp_in i N') (hcs' : l1 ++ .inl (G.2.2.1, N', .inl (upd f i.toNatClampNeg x)) :: l2 = cs') (hdg : decode cc pc = .ok (.iastore, 1))
    (kk : xW G b1 p l e R s m args below meth c Q (pc + 1) ls rest cs' cells slots) : xW G b1 p l e R s m args below meth c Q pc ls (.int x :: .int i :: .ref a :: rest) cs cells slots := by
  intro H locs hP hS
  subst hcs hcs' ha
  refine W.iast C.hx C.hb hP.get ((C.hK.2 0 (G.2.2.1, .int) rfl).1 N' (fun j => .int (f j))) (fun q => by cases q) (by show ¬ (i < 0 ∨ (arrV _ _ _).slots.size ≤ _); rw [arrV_size]; exact hin) rfl rfl hdg fun H1 e1 z1 o1 => ?_
  refine kk H1 _ (hP.put z1 o1 ?_) (hS.put z1 o1 (Nat.le_add_right ..))
  show H1[_]? = some (vp_cell _ _)
  rw [e1, vp_cell_i, vp_cell_i, arrV_store]
  refine congrArg (fun z => some (arrV _ _ z)) (funext fun j => ?_)
  unfold updV upd
  split <;> rfl
theorem xw_aast (C : xC G b b1 own cc nL p s m args meth c) {l1 l2 l3 l4 cs' : List va_E} {N' a k : Nat} {f : Nat → Option Nat} {i : Int32} {vs : List Value} (hcs : cs = l1 ++ .inl (G.2.2.2.1 2, N', .inr (.inr (.inr (.inr f)))) :: l2) (ha : a = b1 + l1.length) (hcv : cs = l3 ++ .inr (2, vs) :: l4) (hk : k = l3.length) (hin : vp_in i N') (hcs' : l1 ++ .inl (G.2.2.2.1 2, N', .inr (.inr (.inr (.inr (va_up f i.toNatClampNeg (some (b1 + k))))))) :: l2 = cs') (hdg : decode cc pc = .ok (.aastore, 1))
    (kk : xW G b1 p l e R s m args below meth c Q (pc + 1) ls rest cs' cells slots) : xW G b1 p l e R s m args below meth c Q pc ls (.ref (b1 + k) :: .int i :: .ref a :: rest) cs cells slots := by
  intro H locs hP hS
  have hlt : i.toNatClampNeg < N' := Nat.not_le.mp fun q => hin (Or.inr q)
  have h0 : ¬ i < 0 := fun q => hin (Or.inl q)
  have hv : cs[k]? = some (.inr (2, vs)) := by rw [hcv, hk, List.getElem?_append_right (Nat.le_refl _), Nat.sub_self]; rfl
  obtain ⟨r', hr', cellV, g1, g2, g3, -⟩ := hP.2 k _ hv
  have hcls := (C.hK.1 2 (RX2, TX2, 3) rfl).2
  obtain ⟨kA, comp, k1, k2, k3, -⟩ := (C.hK.2 2 (G.2.2.2.1 2, .object RX2) rfl).2
  have hcomp : comp = G.1 2 := Option.some.inj (k3.symm.trans hcls.1)
  subst hcomp
  obtain ⟨kC, hkC, -⟩ := hcls.2
  clear hv hcv
  subst hcs hcs' ha
  refine W.aast C.hx C.hb hP.get (fun q h => by cases h) (fun h => by cases h) k1 k2 rfl hkC ⟨h0, by show _ < (arrV _ _ _).slots.size; rw [arrV_size]; exact hlt⟩ g1 (fun q h => by rw [g3] at h; cases h) (by rw [g2]; exact hkC) (by rw [g2]; exact va_assign hcls) rfl rfl hdg fun H1 e1 z1 o1 => ?_
  refine kk H1 _ (hP.put z1 o1 ?_) (hS.put z1 o1 (Nat.le_add_right ..))
  show H1[_]? = some (vp_cell _ _)
  rw [e1, vp_cell_q, vp_cell_q, arrV_store]
  refine congrArg (fun z => some (arrV _ _ z)) (funext fun j => ?_)
  unfold updV va_up
  split <;> rfl
theorem xGood {y : MethodName} {bytes : ByteArray} {mL : Nat} {ret : Option FieldType} (hk : Cond.code y bytes mL ret ∈ zgt) : GoodIn zgt (.code y bytes mL ret :: zgt) := fun w hw => by
  rcases List.mem_cons.mp hw with rfl | hw
  · exact zgt_good _ hk
  · exact zgt_good _ hw
theorem xw_get (C : xC G b b1 own cc nL p s m args meth c) {C1 : String} {T : u_T} {N ci index : Nat} (hin : ∀ w ∈ u_ws C1 T N, w ∈ zgt) (hc : vwCl[ci]? = some (C1, T, N)) (k : Nat) (hk : k < N) (hlink : Cond.fieldLink own index (T k).1 (T k).2.1 (T k).2.2.1 ∈ zgt) {fs : List Value} {r : List va_E} {v : Value} (hv : fs[k]? = some v) (hdg : decode cc pc = .ok (.getfield index, 3))
    (kk : xW G b1 p l e R s m args below meth c Q (pc + 3) ls (v :: rest) (.inr (ci, fs) :: r) cells slots) : xW G b1 p l e R s m args below meth c Q pc ls (.ref b1 :: rest) (.inr (ci, fs) :: r) cells slots := by
  intro H locs hP hS
  have hP1 : va_P (zD G) vwCl [(b1, .inr (ci, fs))] H := fun k q hq => by
    have h0 : k < 1 := (List.getElem?_eq_some_iff.mp hq).1
    rw [show k = 0 by omega] at hq
    cases hq
    exact hP.2 0 _ rfl
  exact va_get C.hx C.hb C.hts hin C.hown C.hK hP1 0 rfl hc k hk (C.hts _ hlink) (fun x h => h) hv hdg (kk H locs hP hS)
/-- texts: how long -/
def xPt (G : zG) (b i : Nat) : Array Value → State → Prop := fun v U => v = #[.ref (zad G (314 + 2 * i))] ∧ xFO G b U
theorem xPt_blind {G : zG} {b i : Nat} : FrameBlind (xPt G b i) := fun a U g mk q => ⟨q.1, xFO.calling g mk a q.2⟩
theorem xrecv {G : zG} {b i : Nat} {s : State} {H : Heap} {locs : List Loc} (hF : xFO G b s) (hi : i < 9) (hS : va_S (xA b) s.heap H locs) : ∃ cell : Cell, H[zad G (314 + 2 * i)]? = some cell ∧ cell.vm.isStatics = false ∧ s.vm.findClass "java/lang/String" = some cell.cls := by
  obtain ⟨cell, h1, h2, h3, h4⟩ := (hF.2.1.1 i hi).1
  exact ⟨cell, by rw [hS.2.1 _ (Array.getElem?_eq_some_iff.mp h1).1 h4]; exact h1, h2, h3⟩
theorem x_coder (l : Launch) {G : zG} {b i : Nat} (hi : i < 9) : Met l (zy 208) (zwk 208) (k2_rm 0 0) (xPt G b i) (QcRead 0) 0 0 (fun _ => False) := by
  refine Met.ofW (cc := cJ0_coder_7d493) (maxL := 1) (ret := some .byte) (by decide) rfl ?_
  intro p e s m args below meth c s₁ B hml hv
  obtain ⟨rfl, hF⟩ := hv
  have hts : ∀ w ∈ zgt, w.before _ s = true := fun w hw => atoms_spec (ws := zwk 208) B.pre w (List.mem_cons_of_mem _ hw)
  have hown : s.vm.findClass RJ0 = some m.cls := findClass_of_methodNamed B.named
  have hl := lv_entry ([.ref (zad G (314 + 2 * i))]) (n := 1) (Nat.le_of_ble_eq_true rfl)
  rw [show (#[Value.ref (zad G (314 + 2 * i))] : Array Value) = ([Value.ref (zad G (314 + 2 * i))] : List Value).toArray from rfl, lg_entry_eq]
  have hS : va_S (xA b) s.heap s.heap [] := va_S.rf
  refine va_gets B.exec B.bytes hF.1 hS hown (hts _ (zmem (List.mem_append_left _ (List.mem_of_getElem? (i := 65) rfl)) rfl)) (fun x h => h) (by decide +kernel : decode cJ0_coder_7d493 0 = .ok (.getstatic 38, 3)) ?_
  refine lv_if_eq B.exec B.bytes (tgt := 13) (by decide +kernel : decode cJ0_coder_7d493 3 = .ok (.ifCond .eq 10, 3)) (by decide) (fun h => absurd h (by decide)) fun _ => ?_
  refine lv_aload_n B.exec B.bytes (by decide +kernel : decode cJ0_coder_7d493 6 = .ok (.aload_n 0, 1)) rfl (lv_at hl 0 rfl) ?_
  refine vk_getf B.exec B.bytes (hF.2.1.1 i hi).2.1 hS hown (hts _ (zmem (List.mem_append_right _ (List.mem_append_right _ (List.mem_append_right _ (List.mem_append_right _ (List.mem_append_right _ (List.mem_of_getElem? (i := 40) rfl)))))) rfl)) (fun x h => h) (by decide +kernel : decode cJ0_coder_7d493 7 = .ok (.getfield 15, 3)) ?_
  refine lv_goto B.exec B.bytes (tgt := 14) (by decide +kernel : decode cJ0_coder_7d493 10 = .ok (.goto 4, 3)) (by decide) ?_
  exact W.zret B.exec B.bytes B.returns rfl (fun t ht hW => ⟨rfl, ht⟩) (fun q hq => by cases hq) (by decide +kernel : decode cJ0_coder_7d493 14 = .ok (.ireturn, 1)) (hlocks := B.notSynchronized)
theorem x_length (l : Launch) {G : zG} {b i n : Nat} (hi : i < 9) (hn : zlen.getD i 0 = n) {r : Int32} (hr : Int32.ofNat n >>> ((0 : Int32) &&& 31) = r) : Met l (zy 209) (zwk 209) (k2_rm 1 20) (xPt G b i) (QcRead r) 0 0 (fun _ => False) := by
  refine Met.ofW (cc := cJ0_length_8abf5) (maxL := 1) (ret := some .int) (by decide) rfl ?_
  intro p e s m args below meth c s₁ B hml hv
  obtain ⟨rfl, hF⟩ := hv
  have hts : ∀ w ∈ zgt, w.before _ s = true := fun w hw => atoms_spec (ws := zwk 209) B.pre w (List.mem_cons_of_mem _ hw)
  have hown : s.vm.findClass RJ0 = some m.cls := findClass_of_methodNamed B.named
  have hl := lv_entry ([.ref (zad G (314 + 2 * i))]) (n := 1) (Nat.le_of_ble_eq_true rfl)
  rw [show (#[Value.ref (zad G (314 + 2 * i))] : Array Value) = ([Value.ref (zad G (314 + 2 * i))] : List Value).toArray from rfl, lg_entry_eq]
  have hS : va_S (xA b) s.heap s.heap [] := va_S.rf
  refine lv_aload_n B.exec B.bytes (by decide +kernel : decode cJ0_length_8abf5 0 = .ok (.aload_n 0, 1)) rfl (lv_at hl 0 rfl) ?_
  refine vk_getf B.exec B.bytes (hF.2.1.1 i hi).2.2.1 hS hown (hts _ (zmem (List.mem_append_right _ (List.mem_append_right _ (List.mem_append_right _ (List.mem_append_right _ (List.mem_append_right _ (List.mem_of_getElem? (i := 39) rfl)))))) rfl)) (fun x h => h) (by decide +kernel : decode cJ0_length_8abf5 1 = .ok (.getfield 9, 3)) ?_
  refine va_tlen B.exec B.bytes (hF.2.1.1 i hi).2.2.2 hS rfl (by decide +kernel : decode cJ0_length_8abf5 4 = .ok (.arraylength, 1)) ?_
  refine lv_aload_n B.exec B.bytes (by decide +kernel : decode cJ0_length_8abf5 5 = .ok (.aload_n 0, 1)) rfl (lv_at hl 0 rfl) ?_
  refine W.callR (r := 0) (W.runV (b := zad G (314 + 2 * i)) (As := []) ⟨B.exec, B.bytes, hml, hown, hts⟩ (x_coder l hi) ⟨callB_of 0 hts (xGood zcw_208) rfl rfl rfl (hts _ zwi_208) (hts _ (zmem (List.mem_append_left _ (List.mem_of_getElem? (i := 61) rfl)) rfl)) zwd_208 ⟨Nat.le_of_ble_eq_true rfl, Nat.le_of_ble_eq_true rfl⟩, hts _ zwn_208, hts _ zwl_208⟩ ⟨xPt_blind, xrecv hF hi hS, fun U hU hW => ⟨rfl, hF.moved hW (locs := []) (by rw [hU]; exact hS)⟩⟩ rfl rfl hl.1 rfl (lv_room (Nat.le_of_ble_eq_true rfl)) (by decide +kernel : decode cJ0_length_8abf5 6 = .ok (.invokevirtual 335, 3)) ⟨Nat.zero_le _, Nat.zero_le _⟩) ?_
  refine lv_ishr B.exec B.bytes (by decide +kernel : decode cJ0_length_8abf5 9 = .ok (.ishr, 1)) ?_
  rw [hn, hr]
  exact W.iret B.exec B.bytes B.returns (fun t ht hW => ⟨rfl, ht⟩) (fun q hq => by cases hq) (by decide +kernel : decode cJ0_length_8abf5 10 = .ok (.ireturn, 1)) (hlocks := B.notSynchronized)
theorem xw_len (C : xC G b b1 own cc nL p s m args meth c) {idx : Nat} (hlk : Cond.methodLink own idx (zy 209) ∈ zgt) (hsz : ls.size = nL) (hroom : (rest.map fun v => v.category).sum ≤ 8) (hR : 2 ≤ R.frames ∧ 40 ≤ R.locals) (hc1 : cells + 0 ≤ R.cells) (hc2 : slots + 0 ≤ R.slots) (hdg : decode cc pc = .ok (.invokevirtual idx, 3)) (kk : xW G b1 p l e R s m args below meth c Q (pc + 3) ls (.int (nI 5) :: rest) cs cells slots) : xW G b1 p l e R s m args below meth c Q pc ls (.ref (zad G (314 + 2 * 0)) :: rest) cs cells slots := by
  intro H locs hP hS
  have hS0 := xS_mono C.hle hS
  exact W.callR (r := nI 5) (W.runV (b := zad G (314 + 2 * 0)) (As := []) (rest := rest) ⟨C.hx, C.hb, C.hml, C.hown, C.hts⟩ (x_length l (i := 0) (n := 5) (by decide) rfl (by decide)) ⟨callB_of 0 C.hts (xGood zcw_209) rfl rfl rfl (C.hts _ zwi_209) (C.hts _ hlk) zwd_209 ⟨hR.1, by show 8 + (1 + 11) + 20 ≤ R.locals; exact hR.2⟩, C.hts _ zwn_209, C.hts _ zwl_209⟩ ⟨xPt_blind, xrecv C.hF (by decide) hS0, fun U hU hW => ⟨rfl, C.hF.moved hW (locs := locs) (by rw [hU]; exact hS0)⟩⟩ rfl rfl hsz rfl (lv_room hroom) hdg ⟨hc1, hc2⟩) (kk H locs hP hS)
/-- what a constructor makes of its object x: the cells cs1 -/
def xMet (l : Launch) (G : zG) (b : Nat) (y : MethodName) (bytes : ByteArray) (mL : Nat) (rm : Room) (x : va_E) (cs1 : Nat → List va_E) : Prop :=
  ∀ b1, b ≤ b1 → Met l y (.code y bytes mL none :: zgt) rm (fun v U => v = #[.ref b1] ∧ xP G b1 [x] U.heap ∧ va_K (zD G) vwCl (ztys G) U ∧ xFO G b U) (va_Qv (fun _ : Unit => True) (fun _ t => xP G b1 (cs1 b1) t.heap) (xA b1)) rm.cells rm.slots (xA b1)
theorem xpre (C : xC G b b1 own cc nL p s m args meth c) {H : Heap} {locs : List Loc} {l1 : List va_E} {x : va_E} (hP : xP G b1 (l1 ++ [x]) H) (hS : va_S (xA b1) s.heap H locs) : PreS s H (fun v U => v = #[.ref (b1 + l1.length)] ∧ xP G (b1 + l1.length) [x] U.heap ∧ va_K (zD G) vwCl (ztys G) U ∧ xFO G b U) (.ref (b1 + l1.length) :: []) :=
  ⟨fun a U g mk q => ⟨q.1, q.2.1, va_K.moved (u := U) (U := U.calling g mk a) (Vm.Alike.refl U.vm) q.2.2.1, xFO.calling g mk a q.2.2.2⟩, fun U hU hW => ⟨rfl, by rw [hU]; exact hP.last, va_K.moved hW.alike C.hK, C.hF.moved hW (locs := locs) (by rw [hU]; exact xS_mono C.hle hS)⟩⟩
theorem xw_callN (C : xC G b b1 own cc nL p s m args meth c) {y : MethodName} {bytes : ByteArray} {mL idx a : Nat} {rm : Room} {x : va_E} {cs1 : Nat → List va_E} {l1 cs' : List va_E} (hM : xMet l G b y bytes mL rm x cs1) (hmn : (own, idx, y) ∈ xmn) (hk : Cond.code y bytes mL none ∈ zgt) (hini : Cond.initialized y.cls ∈ zgt) (hinst : Cond.instanceMethod y ∈ zgt) (hname : y.name = "<init>") (hd : y.cls ≠ "java/lang/invoke/MethodHandle" ∧ y.cls ≠ "java/lang/invoke/VarHandle" ∧ (parseMethodDescriptor y.desc).map (fun d => d.parameters.length) = some 0) (hR : rm.frames + 1 ≤ R.frames ∧ 8 + (mL + 11) + rm.locals ≤ R.locals) (hsz : ls.size = nL) (hroom : (rest.map fun v => v.category).sum ≤ 8) (hdg : decode cc pc = .ok (.invokespecial idx, 3)) (hf : cells + rm.cells ≤ R.cells ∧ slots + rm.slots ≤ R.slots) (hcs : cs = l1 ++ [x]) (ha : a = b1 + l1.length) (hcs' : l1 ++ cs1 a = cs')
    (kk : xW G b1 p l e R s m args below meth c Q (pc + 3) ls rest cs' (cells + rm.cells) (slots + rm.slots)) : xW G b1 p l e R s m args below meth c Q pc ls (.ref a :: rest) cs cells slots := by
  intro H locs hP hS
  subst hcs ha hcs'
  refine va_callv (va_runIN (As := []) (rest := rest) ⟨C.hx, C.hb, C.hml, C.hown, C.hts⟩ (hM _ (Nat.le_trans C.hle (Nat.le_add_right ..))) ⟨va_cnB 0 C.hts (xGood hk) rfl rfl rfl (C.hF.2.2.2.1 _ hmn) (C.hts _ hini) hd hR, hname, C.hts _ hinst⟩ (xpre C hP hS) rfl rfl hsz rfl (lv_room hroom) hdg hf) hS (fun q _ h => Nat.le_trans (Nat.le_add_right ..) h) (fun q h => Nat.le_trans (Nat.le_add_right ..) h) (fun u t H1 locs1 ht hvm hw hB hz1 hk1 hS1 => ?_)
  have hB : xP G (b1 + l1.length) (cs1 (b1 + l1.length)) t.heap := hB
  rw [ht] at hB
  exact kk H1 locs1 (hP.call hB fun q hq => hk1 q (by rw [hP.1, List.length_append]; omega) (Nat.not_le.mpr hq)) hS1
theorem xw_callI (C : xC G b b1 own cc nL p s m args meth c) {y : MethodName} {bytes : ByteArray} {mL idx a : Nat} {rm : Room} {x : va_E} {cs1 : Nat → List va_E} {l1 cs' : List va_E} (hM : xMet l G b y bytes mL rm x cs1) (hlk : Cond.methodLink own idx y ∈ zgt) (hk : Cond.code y bytes mL none ∈ zgt) (hini : Cond.initialized y.cls ∈ zgt) (hinst : Cond.instanceMethod y ∈ zgt) (hname : y.name = "<init>") (hd : y.cls ≠ "java/lang/invoke/MethodHandle" ∧ y.cls ≠ "java/lang/invoke/VarHandle" ∧ (parseMethodDescriptor y.desc).map (fun d => d.parameters.length) = some 0) (hR : rm.frames + 1 ≤ R.frames ∧ 8 + (mL + 11) + rm.locals ≤ R.locals) (hsz : ls.size = nL) (hroom : (rest.map fun v => v.category).sum ≤ 8) (hdg : decode cc pc = .ok (.invokespecial idx, 3)) (hf : cells + rm.cells ≤ R.cells ∧ slots + rm.slots ≤ R.slots) (hcs : cs = l1 ++ [x]) (ha : a = b1 + l1.length) (hcs' : l1 ++ cs1 a = cs')
    (kk : xW G b1 p l e R s m args below meth c Q (pc + 3) ls rest cs' (cells + rm.cells) (slots + rm.slots)) : xW G b1 p l e R s m args below meth c Q pc ls (.ref a :: rest) cs cells slots := by
  intro H locs hP hS
  subst hcs ha hcs'
  refine va_callv (va_runI (As := []) (rest := rest) ⟨C.hx, C.hb, C.hml, C.hown, C.hts⟩ (hM _ (Nat.le_trans C.hle (Nat.le_add_right ..))) (cwI 0 C.hts (xGood hk) rfl rfl rfl (C.hts _ hini) (C.hts _ hlk) (C.hts _ hinst) hname hd hR) (xpre C hP hS) rfl rfl hsz rfl (lv_room hroom) hdg hf) hS (fun q _ h => Nat.le_trans (Nat.le_add_right ..) h) (fun q h => Nat.le_trans (Nat.le_add_right ..) h) (fun u t H1 locs1 ht hvm hw hB hz1 hk1 hS1 => ?_)
  have hB : xP G (b1 + l1.length) (cs1 (b1 + l1.length)) t.heap := hB
  rw [ht] at hB
  exact kk H1 locs1 (hP.call hB fun q hq => hk1 q (by rw [hP.1, List.length_append]; omega) (Nat.not_le.mpr hq)) hS1
theorem xw_ret (C : xC G b b1 own cc nL p s m args meth c) (hr : meth.sig.returnType = none) {cs1 : Nat → List va_E} (hcs : cs = cs1 b1) (hdg : decode cc pc = .ok (.return_, 1)) : xW G b1 p l e R s m args below meth c (MQ below (va_Qv (fun _ : Unit => True) (fun _ t => xP G b1 (cs1 b1) t.heap) (xA b1)) args s cells slots (xA b1)) pc ls [] cs cells slots := by
  intro H locs hP hS
  subst hcs
  exact W.vret C.hx C.hb hr (fun t ht hW => ⟨⟨(), rfl, trivial, by show xP G b1 (cs1 b1) t.heap; rw [ht]; exact hP⟩, hS.F ht⟩) hS.2.2 hdg (hlocks := C.hlk)
end XR
section XM
variable {G : zG} {b : Nat} (l : Launch)
theorem xMet_of {y : MethodName} {bytes : ByteArray} {rm : Room} {x : va_E} {cs1 : Nat → List va_E} (hy : plainName y.cls = true) (body : ∀ b1, b ≤ b1 → ∀ (p : Program) (e : Env) (s : State) (m : MethodId) (args : Array Value) (below : List Frame) (meth : Method) (c : Code) (ls : Array Slot), xC G b b1 y.cls bytes 1 p s m args meth c → lv_has ls 1 [(0, .ref b1)] → meth.name = "<init>" → meth.sig.returnType = none → xW G b1 p l e rm s m args below meth c (MQ below (va_Qv (fun _ : Unit => True) (fun _ t => xP G b1 (cs1 b1) t.heap) (xA b1)) args s rm.cells rm.slots (xA b1)) 0 ls [] [x] 0 0) (hyn : y.name = "<init>") : xMet l G b y bytes 1 rm x cs1 := by
  intro b1 hb1
  refine Met.ofW (cc := bytes) (maxL := 1) (ret := none) hy rfl ?_
  intro p e s m args below meth c s₁ B hml hv
  obtain ⟨rfl, hP, hK, hF⟩ := hv
  have hts := atoms_spec (ws := .code y bytes 1 none :: zgt) B.pre
  have hin : meth.name = "<init>" := (name_of_methodNamed B.named B.method).1.trans hyn
  have hl := lv_entry ([.ref b1]) (n := 1) (Nat.le_of_ble_eq_true rfl)
  rw [show (#[Value.ref b1] : Array Value) = ([Value.ref b1] : List Value).toArray from rfl, lg_entry_eq]
  exact body b1 hb1 p e s m _ below meth c _ ⟨B.exec, B.bytes, hml, findClass_of_methodNamed B.named, fun w hw => hts w (List.mem_cons_of_mem _ hw), hK, hF, hb1, by rw [hP.1]; exact Nat.le_add_right .., B.notSynchronized⟩ hl hin B.returns s.heap [] hP va_S.rf
end XM
