/-! ===== the small machine is the machine: what a place of the code means ===== -/
abbrev zG : Type := (Nat → ClassId) × (Nat → Nat → Nat) × ClassId × (Nat → ClassId) × (Nat → Nat)
abbrev zad (G : zG) : Nat → Nat := G.2.2.2.2
abbrev zD (G : zG) : va_G := (G.1, G.2.1)
def zt (G : zG) : Value → Value
  | .ref k => .ref (zad G k)
  | v => v
theorem zt_cat (G : zG) (v : Value) : (zt G v).category = v.category := by cases v <;> rfl
def zval (G : zG) (f : Nat → Int32) (j : Nat) (q : Nat × Nat) : Value := if q.1 = 1 then .ref (zad G q.2) else if q.1 = 3 then .ref (zad G (f j).toNatClampNeg) else .int (f j)
def zfs (G : zG) (f : Nat → Int32) (sl : List (Nat × Nat)) : List Value := sl.mapIdx fun j q => zval G f j q
def zcell (G : zG) (f : Nat → Int32) (s : zS) : va_E :=
  if s.1 = 0 then .inl (G.2.2.1, (s.2.1, .inl f))
  else if s.1 = 2 then .inl (G.2.2.2.1 s.2.1, (s.2.2.1.length, .inr (.inr (.inr (.inr fun j => (s.2.2.1[j]?).map fun q => zad G q.2)))))
  else .inr (s.2.1, zfs G f s.2.2.1)
def zws (G : zG) (h : zH) : va_W := (List.range 309).map fun k => (zad G k, zcell G (h k) (zsh k))
def ztys (G : zG) : List (ClassId × FieldType) := [(G.2.2.1, .int), (G.2.2.2.1 1, .array .int), (G.2.2.2.1 2, .object RX2)]
def zA (G : zG) : Nat → Prop := fun q => ∃ k, k < 309 ∧ zad G k = q
def zinj (G : zG) : Prop := ∀ i j, i < 309 → j < 309 → zad G i = zad G j → i = j
def zX (L : Nat) (xs : Nat → Int32) (h : zH) : Prop := (∀ j, j < L → h 313 j = xs j) ∧ h 400 0 = Int32.ofNat L ∧ L ≤ 3072
/-- texts: lengths, bytes; which constant is which -/
def zlen : List Nat := [5, 0, 3, 1, 1, 1, 3, 2, 3]
def zbyt : List (List Int32) := [[102, 118, 104, 103, 119], [], [115, 104, 103], [41], [124], [38], [60, 61, 62], [43, 45], [42, 47, 37]]
def zstr : List (String × Nat × String × Nat) := [("LoudMarket$World", 33, "fvhgw", 0), ("LoudMarket", 124, "fvhgw", 0), ("LoudMarket$Reader", 32, "", 1), ("LoudMarket", 126, "shg", 2), ("LoudMarket$Reader", 96, ")", 3), ("LoudMarket$Reader", 64, "|", 4), ("LoudMarket$Reader", 66, "&", 5), ("LoudMarket$Reader", 68, "<=>", 6), ("LoudMarket$Reader", 70, "+-", 7), ("LoudMarket$Reader", 72, "*/%", 8)]
/-- calls across nest mates -/
def zmn : List (String × Nat × MethodName × String) := [(RX5, 94, yX6_distance, "LoudMarket"), (RX4, 35, yX6_within, "LoudMarket"), (RX5, 153, yX6_sign, "LoudMarket"), (RX5, 90, yX6_worthIn, "LoudMarket"), (RX5, 108, yX6_held, "LoudMarket"), (RX0, 89, yX6_within, "LoudMarket"), (RX1, 16, yX6_within, "LoudMarket"), (RX3, 40, yX6_within, "LoudMarket")]
/-- static rows: class, field, number -/
def zst : List (String × String × Nat) := [("LoudMarket", "KIND_ABOVE", 309), ("LoudMarket", "MOST_SET", 310), ("LoudMarket", "MOST_LAW", 311), ("LoudMarket$Speaker", "BODIES", 312)]
/-- what stands outside: statics, fixed rows, texts, the script -/
def zFO (G : zG) (L : Nat) (xs : Nat → Int32) (U : State) : Prop :=
  (∀ q ∈ zst, va_Z q.1 q.2.1 "[I" (.ref (zad G q.2.2)) (zA G) U U.heap) ∧
  (∀ k, 309 ≤ k → k ≤ 312 → va_T .int (zad G k) (zsh k).2.2.2.length (fun j => .int ((zsh k).2.2.2.getD j 0)) (zA G) U U.heap) ∧
  va_Z "java/lang/String" "COMPACT_STRINGS" "Z" (.int 1) (zA G) U U.heap ∧
  vk_S 9 zlen zbyt (fun i => zad G (314 + 2 * i)) (fun i => zad G (315 + 2 * i)) (zA G) U U.heap ∧
  (∀ q ∈ zstr, vk_R q.1 q.2.1 q.2.2.1 (zad G (314 + 2 * q.2.2.2)) U) ∧
  (va_X (zad G 313) L xs U U.heap ∧ zad G 313 < U.heap.size ∧ ¬ zA G (zad G 313)) ∧
  (∀ q ∈ zmn, va_Nw (.methodLinkNest q.1 q.2.1 q.2.2.1 q.2.2.2) U) ∧
  va_Nw (.fieldLinkNest RX3 44 "LoudMarket" "KIND_ABOVE" "[I" "LoudMarket") U
theorem zFO.moved {G : zG} {L : Nat} {xs : Nat → Int32} {s U : State} (h : zFO G L xs s) (hW : s.WarmedH U.vm) {locs : List Loc} (hS : va_S (zA G) s.heap U.heap locs) : zFO G L xs U := by
  obtain ⟨h1, h2, h3, h4, h5, ⟨h6, h7, h8⟩, h9, h10⟩ := h
  refine ⟨fun q hq => ?_, fun k a b => ?_, ?_, ?_, fun q hq => (h5 q hq).warm hW, ⟨?_, Nat.lt_of_lt_of_le h7 hS.1, h8⟩, fun q hq => va_Nw.warmM hW (h9 q hq), va_Nw.warmF hW h10⟩
  · exact ((h1 q hq).moved hW.alike).kept hS.2.1
  · exact ((h2 k a b).moved hW.alike).kept hS.2.1
  · exact (h3.moved hW.alike).kept hS.2.1
  · exact (h4.moved hW.alike).kept hS.2.1
  · exact (h6.moved hW.alike).kept (hS.2.1 _ h7 h8)
theorem zFO.calling {G : zG} {L : Nat} {xs : Nat → Int32} {U : State} (g : JFrame) (mk : MethodId) (a : Array Value) (h : zFO G L xs U) : zFO G L xs (U.calling g mk a) := by
  obtain ⟨h1, h2, h3, h4, h5, ⟨h6, h7, h8⟩, h9, h10⟩ := h
  have hv : U.vm.Alike (U.calling g mk a).vm := Vm.Alike.refl U.vm
  exact ⟨fun q hq => va_Z.moved (U := U.calling g mk a) hv (h1 q hq), fun k a b => va_T.moved hv (h2 k a b), va_Z.moved hv h3, vk_S.moved hv h4, fun q hq => vk_R.same rfl (h5 q hq), ⟨va_X.moved hv h6, h7, h8⟩, fun q hq => va_Nw.same rfl rfl (h9 q hq), va_Nw.same rfl rfl h10⟩
/-- a state that holds memory h -/
def zSW (G : zG) (L : Nat) (xs : Nat → Int32) (h : zH) (U : State) : Prop := va_P (zD G) vwCl (zws G h) U.heap ∧ va_K (zD G) vwCl (ztys G) U ∧ zFO G L xs U ∧ zinj G ∧ zX L xs h
def zrm (d : Nat) : Room := { frames := d, cells := 0, slots := 0, locals := 64 * d }
def zPc (G : zG) (L : Nat) (xs : Nat → Int32) (as : List Value) (h : zH) : Array Value → State → Prop := fun v U => v = (as.map (zt G)).toArray ∧ zSW G L xs h U
def zQc (G : zG) (L : Nat) (xs : Nat → Int32) (r : Option Value) (h : zH) : Array Value → State → Outcome → State → Prop := fun _ st o t => o = .returned (r.map (zt G)) ∧ va_P (zD G) vwCl (zws G h) t.heap ∧ zX L xs h ∧ va_F (zA G) st t
def zMet (G : zG) (L : Nat) (xs : Nat → Int32) (l : Launch) (d k : Nat) (as : List Value) (h : zH) (r : Option Value) (h2 : zH) : Prop := Met l (zy k) (zwk k) (zrm d) (zPc G L xs as h) (zQc G L xs r h2) 0 0 (zA G)
theorem zPc_blind {G : zG} {L : Nat} {xs : Nat → Int32} {as : List Value} {h : zH} : FrameBlind (zPc G L xs as h) := fun a U g mk q => ⟨q.1, q.2.1, va_K.moved (u := U) (U := U.calling g mk a) (Vm.Alike.refl U.vm) q.2.2.1, zFO.calling g mk a q.2.2.2.1, q.2.2.2.2⟩
/-- locals -/
def zls (G : zG) (lo : zL) : List (Nat × Value) := (List.range lo.length).filterMap fun i => match lo[i]? with
  | some Value.null => none
  | some v => some (i, zt G v)
  | none => none
theorem zls_mem {G : zG} {lo : zL} {q : Nat × Value} : q ∈ zls G lo ↔ ∃ v, lo[q.1]? = some v ∧ v ≠ Value.null ∧ q.2 = zt G v := by
  unfold zls
  rw [List.mem_filterMap]
  constructor
  · rintro ⟨i, -, h⟩
    cases hv : lo[i]? with
    | none => rw [hv] at h; cases h
    | some v =>
      rw [hv] at h
      have key : v ≠ Value.null → some (i, zt G v) = some q → ∃ v, lo[q.1]? = some v ∧ v ≠ Value.null ∧ q.2 = zt G v := by
        intro n e
        cases e
        exact ⟨v, hv, n, rfl⟩
      cases v with
      | null => cases h
      | _ => exact key (fun e => by cases e) h
  · rintro ⟨v, h1, h2, h3⟩
    refine ⟨q.1, List.mem_range.mpr (List.getElem?_eq_some_iff.mp h1).1, ?_⟩
    rw [h1]
    obtain ⟨i, w⟩ := q
    dsimp only at h3
    subst h3
    cases v with
    | null => exact absurd rfl h2
    | _ => rfl
theorem lv_mono {ls : Array Slot} {n : Nat} {l l' : List (Nat × Value)} (h : lv_has ls n l) (hs : ∀ q ∈ l', q ∈ l) : lv_has ls n l' := ⟨h.1, h.2.1, fun q hq => h.2.2 q (hs q hq)⟩
theorem zls_get {G : zG} {lo : zL} {ls : Array Slot} {n i : Nat} {v : Value} (hl : lv_has ls n (zls G lo)) (h : lo[i]? = some v) (hv : v ≠ Value.null) : ls[i]? = some (.val (zt G v)) := hl.2.2 (i, zt G v) (zls_mem.mpr ⟨v, h, hv, rfl⟩)
theorem zok_spec : ∀ {lo : zL} {i : Nat}, zok lo i = true → i < lo.length ∧ ∀ j v, j + 1 = i → lo[j]? = some v → v.category ≠ 2
  | [], i, h => by cases i <;> simp [zok] at h
  | _ :: l, 0, _ => ⟨Nat.succ_pos _, fun j v e => by omega⟩
  | w :: l, 1, h => by
    simp only [zok, Bool.and_eq_true] at h
    refine ⟨by have := (zok_spec h.2).1; simp only [List.length_cons]; omega, fun j v e hv => ?_⟩
    obtain rfl : j = 0 := by omega
    simp only [List.getElem?_cons_zero, Option.some.injEq] at hv
    subst hv
    cases w <;> simp [zokv, Value.category] at h ⊢
  | _ :: l, n + 2, h => by
    have q := zok_spec (lo := l) (i := n + 1) (by simpa [zok] using h)
    refine ⟨by have := q.1; simp only [List.length_cons]; omega, fun j v e hv => ?_⟩
    cases j with
    | zero => omega
    | succ j => exact q.2 j v (by omega) (by simpa using hv)
theorem zls_set {G : zG} {lo : zL} {i : Nat} {v : Value} (hk : zok lo i = true) : ∀ q ∈ zls G (lo.set i v), q ∈ (i, zt G v) :: (zls G lo).filter (fun q => !(q.1 == i) && !(q.1 + 1 == i && q.2.category == 2)) := by
  intro q hq
  obtain ⟨w, h1, h2, h3⟩ := zls_mem.mp hq
  obtain ⟨a, b⟩ := zok_spec hk
  by_cases e : q.1 = i
  · rw [e, List.getElem?_set_self a] at h1
    cases h1
    obtain ⟨q1, q2⟩ := q
    dsimp only at e h3
    subst e h3
    exact List.mem_cons_self
  · rw [List.getElem?_set_ne (fun z => e z.symm)] at h1
    refine List.mem_cons_of_mem _ (List.mem_filter.mpr ⟨zls_mem.mpr ⟨w, h1, h2, h3⟩, ?_⟩)
    have e2 : ¬ (q.1 + 1 = i ∧ q.2.category = 2) := fun z => b q.1 w z.1 h1 (by rw [← zt_cat G w, ← h3]; exact z.2)
    have e3 : (q.1 == i) = false := by simpa using e
    rw [e3]
    simp only [Bool.not_false, Bool.true_and, Bool.not_eq_true', Bool.and_eq_false_iff, beq_eq_false_iff_ne]
    by_cases z : q.1 + 1 = i
    · exact Or.inr (fun y => e2 ⟨z, y⟩)
    · exact Or.inl z
/-- where a method stands: the machine, the words, the world's facts -/
def zCtx (G : zG) (L : Nat) (xs : Nat → Int32) (own : String) (cc : ByteArray) (nL : Nat) (ret : Option FieldType) (p : Program) (s : State) (m : MethodId) (args : Array Value) (meth : Method) (c : Code) : Prop :=
  p.tables.exec = Jvm.exec ∧ c.code = cc ∧ c.maxLocals = nL ∧ s.vm.findClass own = some m.cls ∧ (∀ w ∈ zgt, w.before args s = true) ∧ va_K (zD G) vwCl (ztys G) s ∧ zFO G L xs s ∧ zinj G ∧ meth.sig.returnType = ret ∧ meth.locks = false
def zRm (d : Nat) (R : Room) (cells slots : Nat) : Prop := d + 1 ≤ R.frames ∧ 64 * (d + 1) ≤ R.locals ∧ cells ≤ R.cells ∧ slots ≤ R.slots
/-- the machine comes to Q from the place pc with these locals, this stack, this memory -/
def zGW (G : zG) (L : Nat) (xs : Nat → Int32) (nL : Nat) (p : Program) (l : Launch) (e : Env) (R : Room) (s : State) (m : MethodId) (args : Array Value) (below : List Frame) (meth : Method) (c : Code) (cells slots : Nat) (Q : State → Prop) (pc : Nat) (lo : zL) (st : List Value) (h : zH) : Prop :=
  ∀ (ls : Array Slot) (H : Heap) (locs : List Loc), lv_has ls nL (zls G lo) → lo.length = nL → va_P (zD G) vwCl (zws G h) H → va_S (zA G) s.heap H locs → zX L xs h → W p l e R s m args below meth c H locs cells slots Q (F0 m pc ls (st.map (zt G)))
/-- a place from which the method returns -/
def zrt (G : zG) (cc : ByteArray) (ret : Option FieldType) (pc : Nat) (r : Option Value) (st : List Value) : Prop :=
  (decode cc pc = .ok (.return_, 1) ∧ ret = none ∧ r = none ∧ st = []) ∨ (∃ x ty, decode cc pc = .ok (.ireturn, 1) ∧ ret = some ty ∧ narrow ty (.int x) = .int x ∧ r = some (.int x) ∧ st = [.int x]) ∨ (∃ k ty, decode cc pc = .ok (.areturn, 1) ∧ ret = some ty ∧ ((∃ n, ty = .object n) ∨ ∃ t, ty = .array t) ∧ r = some (.ref k) ∧ st = [.ref (zad G k)])
def zRO (G : zG) (L : Nat) (xs : Nat → Int32) (cc : ByteArray) (ret : Option FieldType) (p : Program) (l : Launch) (e : Env) (R : Room) (s : State) (m : MethodId) (args : Array Value) (below : List Frame) (meth : Method) (c : Code) (cells slots : Nat) (Q : State → Prop) (r : Option Value) (h : zH) : Prop :=
  ∀ (ls : Array Slot) (H : Heap) (locs : List Loc) (pc : Nat) (st : List Value), zrt G cc ret pc r st → va_P (zD G) vwCl (zws G h) H → va_S (zA G) s.heap H locs → zX L xs h → W p l e R s m args below meth c H locs cells slots Q (F0 m pc ls st)
/-- what is owed behind one instruction -/
def zN (G : zG) (L : Nat) (xs : Nat → Int32) (cc : ByteArray) (nL : Nat) (ret : Option FieldType) (d : Nat) (p : Program) (l : Launch) (e : Env) (R : Room) (s : State) (m : MethodId) (args : Array Value) (below : List Frame) (meth : Method) (c : Code) (cells slots : Nat) (Q : State → Prop) : zC ⊕ (zU ⊕ (Nat × List Value × zC)) → Prop
  | .inl q => zGW G L xs nL p l e R s m args below meth c cells slots Q q.1 q.2.1 q.2.2.1 q.2.2.2
  | .inr (.inl o) => zRO G L xs cc ret p l e R s m args below meth c cells slots Q o.1 o.2
  | .inr (.inr q) => ∃ r h2, zMet G L xs l d q.1 q.2.1 q.2.2.2.2.2 r h2 ∧ zGW G L xs nL p l e R s m args below meth c cells slots Q q.2.2.1 q.2.2.2.1 (r.toList ++ q.2.2.2.2.1) h2
def zSnd (G : zG) (L : Nat) (xs : Nat → Int32) (own : String) (cc : ByteArray) (nL : Nat) (ret : Option FieldType) (pc : Nat) (op : zO) : Prop :=
  ∀ (p : Program) (l : Launch) (e : Env) (R : Room) (s : State) (m : MethodId) (args : Array Value) (below : List Frame) (meth : Method) (c : Code) (cells slots : Nat) (Q : State → Prop) (d : Nat), zCtx G L xs own cc nL ret p s m args meth c → zRm d R cells slots → ∀ (lo : zL) (st : List Value) (h : zH) (r : zC ⊕ (zU ⊕ (Nat × List Value × zC))), op lo st h = some r → zN G L xs cc nL ret d p l e R s m args below meth c cells slots Q r → zGW G L xs nL p l e R s m args below meth c cells slots Q pc lo st h
