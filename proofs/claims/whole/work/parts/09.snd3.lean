/-! ===== arraycopy, switches, calls, returns ===== -/
theorem zX_cp {L : Nat} {xs : Nat → Int32} {h : zH} {a b s0 s1 n : Nat} (hX : zX L xs h) (hb : b < 309) : zX L xs (zcp h a s0 b s1 n) := by
  have e1 : zcp h a s0 b s1 n 313 = h 313 := by
    funext i
    unfold zcp
    rw [if_neg (by omega)]
  have e2 : zcp h a s0 b s1 n 400 = h 400 := by
    funext i
    unfold zcp
    rw [if_neg (by omega)]
  unfold zX
  rw [e1, e2]
  exact hX
theorem zsw_none {x : Int32} {lo : zL} {st : List Value} {h : zH} {d : Nat} : ∀ {ps : List (Int32 × Nat)}, (∀ q ∈ ps, x ≠ q.1) → zsw x lo st h d ps = zgo d lo st h
  | [], _ => rfl
  | q :: r, hn => by
    unfold zsw
    rw [if_neg (hn q List.mem_cons_self)]
    exact zsw_none fun q hq => hn q (List.mem_cons_of_mem _ hq)
theorem zsw_some {x : Int32} {lo : zL} {st : List Value} {h : zH} {d t : Nat} : ∀ {ps : List (Int32 × Nat)} {i : Nat}, ps[i]? = some (x, t) → (∀ j q, j < i → ps[j]? = some q → x ≠ q.1) → zsw x lo st h d ps = zgo t lo st h
  | [], i, hi, _ => by simp at hi
  | q :: r, 0, hi, _ => by
    simp only [List.getElem?_cons_zero, Option.some.injEq] at hi
    subst hi
    unfold zsw
    rw [if_pos rfl]
  | q :: r, i + 1, hi, hn => by
    unfold zsw
    rw [if_neg (hn 0 q (Nat.succ_pos _) rfl)]
    exact zsw_some (by simpa using hi) fun j q hj hq => hn (j + 1) q (by omega) (by simpa using hq)
/-- the rows of a tableswitch from its offsets -/
def ztab (pc : Nat) (lo : Int) : List Int → List (Int32 × Nat)
  | [] => []
  | o :: r => (Int32.ofInt lo, ((pc : Int) + o).toNat) :: ztab pc (lo + 1) r
theorem ztab_len {pc : Nat} : ∀ {os : List Int} {lo : Int}, (ztab pc lo os).length = os.length
  | [], _ => rfl
  | _ :: r, lo => by simp [ztab, ztab_len (os := r)]
theorem ztab_get {pc : Nat} : ∀ {os : List Int} {lo : Int} {i : Nat}, (ztab pc lo os)[i]? = (os[i]?).map fun o => (Int32.ofInt (lo + i), ((pc : Int) + o).toNat)
  | [], _, i => by simp [ztab]
  | o :: r, lo, 0 => by simp [ztab]
  | o :: r, lo, i + 1 => by
    simp only [ztab, List.getElem?_cons_succ]
    rw [ztab_get (os := r)]
    congr 1
    funext o
    have : lo + 1 + (i : Int) = lo + ((i + 1 : Nat) : Int) := by omega
    rw [this]
section SND3
variable {G : zG} {L : Nat} {xs : Nat → Int32} {own : String} {cc : ByteArray} {nL : Nat} {ret : Option FieldType} {pc : Nat}
theorem s_tsw {dflt lo0 hi : Int} {offs : Array Int} {len dt : Nat} {ps : List (Int32 × Nat)} (hdg : decode cc pc = .ok (.tableswitch dflt lo0 hi offs, len)) (hps : ps = ztab pc lo0 offs.toList) (hn : hi = lo0 + offs.size - 1) (hr0 : -1000 ≤ lo0 ∧ hi ≤ 1000) (hpos : ∀ o ∈ offs.toList, 0 ≤ (pc : Int) + o) (ht : (pc : Int) + dflt = (dt : Int)) : zSnd G L xs own cc nL ret pc (oSw ps dt) := by
  intro p l e R s m args below meth c cells slots Q d C X lo st h r hr hN ls H locs hl hlen hP hS hX
  obtain ⟨hx, hb, hml, hown, hts, hK, hO, hJ, hrt, hlk⟩ := C
  unfold oSw at hr
  cases st with
  | nil => cases hr
  | cons v0 st =>
    cases v0 with
    | int x =>
      dsimp only at hr
      subst hps
      have inj : ∀ i : Nat, i < offs.size → (Int32.ofInt (lo0 + i)).toInt = lo0 + i := by
        intro i hi9
        rw [Int32.toInt_ofInt]
        have hsz : Int32.size = 4294967296 := rfl
        apply Int.bmod_eq_of_le <;> rw [hsz] <;> omega
      by_cases hx1 : x.toInt < lo0 ∨ hi < x.toInt
      · rw [zsw_none] at hr
        · obtain rfl := Option.some.inj hr
          exact lv_tableOut hx hb hdg hx1 ht (hN ls H locs hl hlen hP hS hX)
        · intro q hq he
          obtain ⟨i, hi9⟩ := List.getElem?_of_mem hq
          rw [ztab_get] at hi9
          cases ho : offs.toList[i]? with
          | none => rw [ho] at hi9; cases hi9
          | some o =>
            rw [ho] at hi9
            have hlt : i < offs.size := by simpa using (List.getElem?_eq_some_iff.mp ho).1
            have := inj i hlt
            obtain rfl := Option.some.inj hi9
            rw [he] at hx1
            dsimp only at hx1
            rw [this] at hx1
            omega
      · have h1 : ¬ x.toInt < lo0 := fun z => hx1 (Or.inl z)
        have h2 : ¬ hi < x.toInt := fun z => hx1 (Or.inr z)
        have hlt : (x.toInt - lo0).toNat < offs.size := by omega
        have hxe : x = Int32.ofInt (lo0 + ((x.toInt - lo0).toNat : Int)) := by
          have : lo0 + ((x.toInt - lo0).toNat : Int) = x.toInt := by omega
          rw [this, Int32.ofInt_toInt]
        have ho : offs[(x.toInt - lo0).toNat]? = some offs[(x.toInt - lo0).toNat] := Array.getElem?_eq_getElem hlt
        have ho2 : offs.toList[(x.toInt - lo0).toNat]? = some offs[(x.toInt - lo0).toNat] := by rw [Array.getElem?_toList]; exact ho
        have hmem : offs[(x.toInt - lo0).toNat] ∈ offs.toList := List.mem_of_getElem? ho2
        have hp := hpos _ hmem
        rw [zsw_some (i := (x.toInt - lo0).toNat) (t := ((pc : Int) + offs[(x.toInt - lo0).toNat]).toNat)] at hr
        · obtain rfl := Option.some.inj hr
          exact lv_tableIn hx hb hdg h1 h2 ho (by omega) (hN ls H locs hl hlen hP hS hX)
        · rw [ztab_get, ho2]
          exact congrArg (fun z => some (z, _)) hxe.symm
        · intro j q hj hq he
          rw [ztab_get] at hq
          cases hoj : offs.toList[j]? with
          | none => rw [hoj] at hq; cases hq
          | some o =>
            rw [hoj] at hq
            have hlj : j < offs.size := by simpa using (List.getElem?_eq_some_iff.mp hoj).1
            have := inj j hlj
            obtain rfl := Option.some.inj hq
            dsimp only at he
            rw [← he] at this
            omega
    | _ => cases hr
theorem zlook {x : Int32} {lo : zL} {st : List Value} {h : zH} {dflt : Int} {pc dt : Nat} (ht : (pc : Int) + dflt = (dt : Int)) : ∀ {ps : List (Int × Int)} {qs : List (Int32 × Nat)}, qs.map (fun q => (q.1.toInt, (q.2 : Int))) = ps.map (fun p => (p.1, (pc : Int) + p.2)) → ∃ t : Nat, zsw x lo st h dt qs = zgo t lo st h ∧ (pc : Int) + Op.lookupswitch.offset ps dflt x.toInt = (t : Int)
  | [], [], _ => ⟨dt, rfl, ht⟩
  | [], _ :: _, e => by simp at e
  | _ :: _, [], e => by simp at e
  | (a, o) :: r, q :: qs, e => by
    simp only [List.map_cons, List.cons.injEq, Prod.mk.injEq] at e
    obtain ⟨⟨e1, e2⟩, e3⟩ := e
    rw [Op.lookupswitch.offset_cons]
    unfold zsw
    by_cases z : x = q.1
    · rw [if_pos z, if_pos (by rw [z]; exact e1.symm)]
      exact ⟨q.2, rfl, e2.symm⟩
    · rw [if_neg z, if_neg (fun y => z (Int32.toInt_inj.mp (by rw [e1, y])))]
      exact zlook ht e3
theorem s_lsw {dflt : Int} {ps : Array (Int × Int)} {len dt : Nat} {qs : List (Int32 × Nat)} (hdg : decode cc pc = .ok (.lookupswitch dflt ps, len)) (hp : (ps.toList.zip (ps.toList.drop 1)).all (fun (a, next) => a.1 < next.1) = true) (hq : qs.map (fun q => (q.1.toInt, (q.2 : Int))) = ps.toList.map (fun p => (p.1, (pc : Int) + p.2))) (ht : (pc : Int) + dflt = (dt : Int)) : zSnd G L xs own cc nL ret pc (oSw qs dt) := by
  intro p l e R s m args below meth c cells slots Q d C X lo st h r hr hN ls H locs hl hlen hP hS hX
  obtain ⟨hx, hb, hml, hown, hts, hK, hO, hJ, hrt, hlk⟩ := C
  unfold oSw at hr
  cases st with
  | nil => cases hr
  | cons v0 st =>
    cases v0 with
    | int x =>
      dsimp only at hr
      obtain ⟨t, e1, e2⟩ := zlook (x := x) (lo := lo) (st := st) (h := h) ht hq
      rw [e1] at hr
      obtain rfl := Option.some.inj hr
      exact lv_lookup hx hb hdg hp rfl e2 (hN ls H locs hl hlen hP hS hX)
    | _ => cases hr
theorem s_cpy {n : Nat} (hdg : decode cc pc = .ok (.invokestatic n, 3)) (hw : Cond.methodLink own n arraycopyName ∈ zgt) (hw2 : Cond.native arraycopyName ∈ zgt) (hw3 : Cond.static arraycopyName ∈ zgt) (hw4 : Cond.initialized "java/lang/System" ∈ zgt) : zSnd G L xs own cc nL ret pc (oCpy (pc + 3)) := by
  intro p l e R s m args below meth c cells slots Q d C X lo st h r hr hN ls H locs hl hlen hP hS hX
  obtain ⟨hx, hb, hml, hown, hts, hK, hO, hJ, hrt, hlk⟩ := C
  unfold oCpy at hr
  match st, hr with
  | .int nn :: .int j :: .ref b :: .int i :: .ref a :: st, hr =>
    dsimp only at hr
    split at hr
    · rename_i hk
      obtain rfl := Option.some.inj hr
      obtain ⟨⟨a0, a1, b0, b1, hk4⟩, hn0, hi0, hj0, hA, hB⟩ := hk
      have cl : ∀ z : Int32, z.toNatClampNeg = z.toInt.toNat := fun z => rfl
      have ng : ∀ z : Int32, 0 ≤ z.toInt → ¬ z < 0 := fun z hz q => by
        have := Int32.lt_iff_toInt_lt.mp q
        rw [Int32.toInt_zero] at this
        omega
      have hsum := zok4_sum (G := G) hk4
      refine va_copyi hx hb (hml.trans hl.1.symm) hown (hts _ hw) (hts _ hw2) (hts _ hw3) (hts _ hw4) hK hP (zws_D hJ) hS a b 0 0 (by rw [zws_get a1, zcell_0 a0]) (by rw [zws_get b1, zcell_0 b0]) rfl rfl rfl (ng i hi0) (ng j hj0) (ng nn hn0) (by rw [cl, cl]; omega) (by rw [cl, cl]; omega) (fun _ _ => rfl) (by have := X.1; omega) (by
        have h64 := X.2.1
        have h7 : nativeFrameWords "java/lang/System" "arraycopy" 5 = 7 := by decide +kernel
        rw [h7]
        omega) hdg (fun H1 locs1 hP1 _ hS1 => ?_)
      have hN : zGW G L xs nL p l e R s m args below meth c cells slots Q (pc + 3) lo st (zcp h a i.toNatClampNeg b j.toNatClampNeg nn.toNatClampNeg) := hN
      rw [zws_set (h' := zcp h a i.toNatClampNeg b j.toNatClampNeg nn.toNatClampNeg) b1 (by
        rw [zcell_0 b0]
        have e : zcp h a i.toNatClampNeg b j.toNatClampNeg nn.toNatClampNeg b = va_cpy (h a) (h b) i.toNatClampNeg j.toNatClampNeg nn.toNatClampNeg := by
          funext k
          unfold zcp
          rw [if_pos rfl]
        rw [e]) (fun k hk => by
        funext q
        unfold zcp
        rw [if_neg hk])] at hP1
      exact hN ls H1 locs1 hl hlen hP1 hS1 (zX_cp hX b1)
    · cases hr
/-- a call, the receiver among the arguments -/
def zCall (G : zG) (L : Nat) (xs : Nat → Int32) (own : String) (cc : ByteArray) (nL : Nat) (ret : Option FieldType) (pc ci k nn : Nat) : Prop :=
  ∀ (p : Program) (l : Launch) (e : Env) (R : Room) (s : State) (m : MethodId) (args : Array Value) (below : List Frame) (meth : Method) (c : Code) (cells slots : Nat) (Q : State → Prop) (d : Nat), zCtx G L xs own cc nL ret p s m args meth c → zRm d R cells slots → ∀ (lo : zL) (as st : List Value) (h : zH) (r : zC ⊕ (zU ⊕ (Nat × List Value × zC))), as.length = nn → zcl ci k as (pc + 3) lo st h = some r → zN G L xs cc nL ret d p l e R s m args below meth c cells slots Q r → zGW G L xs nL p l e R s m args below meth c cells slots Q pc lo (as.reverse ++ st) h
theorem zW_call {p : Program} {l : Launch} {e : Env} {R : Room} {s : State} {m : MethodId} {args : Array Value} {below : List Frame} {meth : Method} {c : Code} {cells slots : Nat} {Q : State → Prop} {lo : zL} {st stk : List Value} {h2 : zH} {r : Option Value} {a : Array Value} {ls : Array Slot} {H : Heap} {locs : List Loc} {fr : List Value} (hfr : fr = st.map (zt G)) (hr : va_Run p l e R s m args below meth c H locs cells slots 0 0 (F0 m pc ls stk) fr (zQc G L xs r h2 a) (zA G)) (hS : va_S (zA G) s.heap H locs) (hl : lv_has ls nL (zls G lo)) (hlen : lo.length = nL)
    (hN : zGW G L xs nL p l e R s m args below meth c cells slots Q (pc + 3) lo (r.toList ++ st) h2) : W p l e R s m args below meth c H locs cells slots Q (F0 m pc ls stk) := by
  intro T hT X
  obtain ⟨v, st₀, t, T', Lc, h0, X', hL, e1, e2, ⟨hv, hP2, hX2, hz, hk⟩, stp⟩ := hr T hT X
  cases hv
  subst hfr
  rw [h0] at hz hk
  have h9 := hN ls T'.heap (locs ++ Lc) hl hlen (by rw [e1]; exact hP2) ⟨Nat.le_trans hS.1 (by rw [e1]; exact hz), fun q h1 h2 => by rw [e1, hk q (Nat.lt_of_lt_of_le h1 hS.1) h2]; exact hS.2.1 q h1 h2, fun q hq => by
      rcases List.mem_append.mp hq with h | h
      · exact hS.2.2 q h
      · exact hL q h⟩ hX2
  rw [List.map_append] at h9
  have e3 : r.toList.map (zt G) = (r.map (zt G)).toList := by cases r <;> rfl
  rw [e3] at h9
  obtain ⟨t2, a1, b1⟩ := h9 T' rfl X'
  exact ⟨t2, stp t2 a1, b1⟩
theorem zPc_of {s U : State} {H : Heap} {locs : List Loc} {as : List Value} {h : zH} (hU : U.heap = H) (hW : s.WarmedH U.vm) (hK : va_K (zD G) vwCl (ztys G) s) (hO : zFO G L xs s) (hJ : zinj G) (hP : va_P (zD G) vwCl (zws G h) H) (hS : va_S (zA G) s.heap H locs) (hX : zX L xs h) : zPc G L xs as h (as.map (zt G)).toArray U :=
  ⟨rfl, by rw [hU]; exact hP, va_K.moved hW.alike hK, hO.moved hW (locs := locs) (by rw [hU]; exact hS), hJ, hX⟩
theorem zGood (k : Nat) (hk : Cond.code (zy k) (zcode k) (znl k) (zret k) ∈ zgt) : GoodIn zgt (zwk k) := fun w hw => by
  rcases List.mem_cons.mp hw with rfl | hw
  · exact zgt_good _ hk
  · exact zgt_good _ hw
theorem zCallB {R : Room} {s : State} {args : Array Value} {own : String} {n k nn d : Nat} {cells slots : Nat} (hts : ∀ w ∈ zgt, w.before args s = true) (X : zRm d R cells slots) (hk : Cond.code (zy k) (zcode k) (znl k) (zret k) ∈ zgt) (hw1 : Cond.methodLink own n (zy k) ∈ zgt) (hw3 : Cond.initialized (zy k).cls ∈ zgt) (hnl : znl k ≤ 40)
    (hd : (zy k).cls ≠ "java/lang/invoke/MethodHandle" ∧ (zy k).cls ≠ "java/lang/invoke/VarHandle" ∧ (parseMethodDescriptor (zy k).desc).map (fun d => d.parameters.length) = some nn) : CallB R s args own n (zy k) (zcode k) (znl k) (zret k) (zwk k) (zrm d) 0 0 nn :=
  callB_of nn hts (zGood k hk) rfl rfl rfl (hts _ hw3) (hts _ hw1) hd ⟨X.1, by have := X.2.1; show 8 + (znl k + 11) + 64 * d ≤ R.locals; omega⟩
theorem zcl_inv {ci k nx : Nat} {as st : List Value} {lo : zL} {h : zH} {r : zC ⊕ (zU ⊕ (Nat × List Value × zC))} (hr : zcl ci k as nx lo st h = some r) : zok4 st = true ∧ zrc ci as = true ∧ r = .inr (.inr (k, as, nx, lo, st, h)) := by
  unfold zcl at hr
  split at hr
  · rename_i hc
    exact ⟨hc.1, hc.2, (Option.some.inj hr).symm⟩
  · cases hr
theorem zrc_ref {ci : Nat} {as : List Value} (h : zrc ci as = true) (hc : ci ≠ 98) : ∃ a as', as = .ref a :: as' ∧ (if ci = 99 then (zsh a).1 == 5 else (zsh a).1 == 1 && (zsh a).2.1 == ci && Nat.blt a 309) = true := by
  unfold zrc at h
  rw [if_neg hc] at h
  cases as with
  | nil => cases h
  | cons v as =>
    cases v with
    | ref a => exact ⟨a, as, rfl, h⟩
    | _ => cases h
theorem zc_S {n k nn : Nat} (hdg : decode cc pc = .ok (.invokestatic n, 3)) (hk : Cond.code (zy k) (zcode k) (znl k) (zret k) ∈ zgt) (hw1 : Cond.methodLink own n (zy k) ∈ zgt) (hw2 : Cond.static (zy k) ∈ zgt) (hw3 : Cond.initialized (zy k).cls ∈ zgt) (hnl : znl k ≤ 40)
    (hd : (zy k).cls ≠ "java/lang/invoke/MethodHandle" ∧ (zy k).cls ≠ "java/lang/invoke/VarHandle" ∧ (parseMethodDescriptor (zy k).desc).map (fun d => d.parameters.length) = some nn) : zCall G L xs own cc nL ret pc 98 k nn := by
  intro p l e R s m args below meth c cells slots Q d C X lo as st h r hn hr hN ls H locs hl hlen hP hS hX
  obtain ⟨hx, hb, hml, hown, hts, hK, hO, hJ, hrt, hlk⟩ := C
  obtain ⟨h4, -, rfl⟩ := zcl_inv hr
  obtain ⟨r2, h2, hM, hN⟩ := hN
  rw [List.map_append, List.map_reverse]
  exact zW_call rfl (va_runS ⟨hx, hb, hml, hown, hts⟩ hM ⟨zCallB hts X hk hw1 hw3 hnl hd, hts _ hw2⟩ ⟨zPc_blind, fun U hU hW => zPc_of hU hW hK hO hJ hP hS hX⟩ rfl (by rw [List.length_map]; exact hn) hl.1 rfl (lv_room (zok4_sum h4)) hdg ⟨X.2.2.1, X.2.2.2⟩) hS hl hlen hN
theorem zc_SN {n k nn : Nat} {host : String} (hdg : decode cc pc = .ok (.invokestatic n, 3)) (hk : Cond.code (zy k) (zcode k) (znl k) (zret k) ∈ zgt) (hw1 : (own, n, zy k, host) ∈ zmn) (hw2 : Cond.static (zy k) ∈ zgt) (hw3 : Cond.initialized (zy k).cls ∈ zgt) (hnl : znl k ≤ 40)
    (hd : (zy k).cls ≠ "java/lang/invoke/MethodHandle" ∧ (zy k).cls ≠ "java/lang/invoke/VarHandle" ∧ (parseMethodDescriptor (zy k).desc).map (fun d => d.parameters.length) = some nn) : zCall G L xs own cc nL ret pc 98 k nn := by
  intro p l e R s m args below meth c cells slots Q d C X lo as st h r hn hr hN ls H locs hl hlen hP hS hX
  obtain ⟨hx, hb, hml, hown, hts, hK, hO, hJ, hrt, hlk⟩ := C
  obtain ⟨h4, -, rfl⟩ := zcl_inv hr
  obtain ⟨r2, h2, hM, hN⟩ := hN
  rw [List.map_append, List.map_reverse]
  exact zW_call rfl (va_runSN ⟨hx, hb, hml, hown, hts⟩ hM ⟨va_cnB nn hts (zGood k hk) rfl rfl rfl (hO.2.2.2.2.2.2.1 _ hw1) (hts _ hw3) hd ⟨X.1, by have := X.2.1; show 8 + (znl k + 11) + 64 * d ≤ R.locals; omega⟩, hts _ hw2, trivial⟩ ⟨zPc_blind, fun U hU hW => zPc_of hU hW hK hO hJ hP hS hX⟩ rfl (by rw [List.length_map]; exact hn) hl.1 rfl (lv_room (zok4_sum h4)) hdg ⟨X.2.2.1, X.2.2.2⟩) hS hl hlen hN
theorem zc_V {n k nn ci N : Nat} {C : String} {T : u_T} (hdg : decode cc pc = .ok (.invokevirtual n, 3)) (hc : vwCl[ci]? = some (C, T, N)) (hci : ci < 90) (hC : (zy k).cls = C) (hk : Cond.code (zy k) (zcode k) (znl k) (zret k) ∈ zgt) (hw1 : Cond.methodLink own n (zy k) ∈ zgt) (hw2 : Cond.instanceMethod (zy k) ∈ zgt) (hw4 : Cond.selects (zy k).cls (zy k) (zy k) ∈ zgt) (hw3 : Cond.initialized (zy k).cls ∈ zgt) (hnl : znl k ≤ 40)
    (hd : (zy k).cls ≠ "java/lang/invoke/MethodHandle" ∧ (zy k).cls ≠ "java/lang/invoke/VarHandle" ∧ (parseMethodDescriptor (zy k).desc).map (fun d => d.parameters.length) = some nn) : zCall G L xs own cc nL ret pc ci k (nn + 1) := by
  intro p l e R s m args below meth c cells slots Q d C0 X lo as st h r hn hr hN ls H locs hl hlen hP hS hX
  obtain ⟨hx, hb, hml, hown, hts, hK, hO, hJ, hrt, hlk⟩ := C0
  obtain ⟨h4, hrc, rfl⟩ := zcl_inv hr
  obtain ⟨r2, h2, hM, hN⟩ := hN
  obtain ⟨a, as, rfl, hrd⟩ := zrc_ref hrc (by omega)
  · rw [if_neg (by omega)] at hrd
    simp only [Bool.and_eq_true, beq_iff_eq, Nat.blt_eq] at hrd
    obtain ⟨⟨k1, k2⟩, k3⟩ := hrd
    rw [List.map_append, List.map_reverse, List.map_cons, List.reverse_cons, List.append_assoc]
    exact zW_call rfl (va_runV (b := zad G a) (As := as.map (zt G)) ⟨hx, hb, hml, hown, hts⟩ hM ⟨zCallB hts X hk hw1 hw3 hnl hd, hts _ hw2, hts _ hw4⟩ ⟨zPc_blind, by
      have h9 := va_recv hK hP hc (a := zad G a) (q0 := a) (ci := ci) (fs := zfs G (h a) (zsh a).2.2.1) (by rw [zws_get k3, zcell_1 k1, k2])
      rw [← hC] at h9
      exact h9, fun U hU hW => zPc_of hU hW hK hO hJ hP hS hX⟩ rfl (by rw [List.length_map]; simpa using hn) hl.1 rfl (lv_room (zok4_sum h4)) hdg ⟨X.2.2.1, X.2.2.2⟩) hS hl hlen hN
theorem zc_T {n k nn : Nat} (hdg : decode cc pc = .ok (.invokevirtual n, 3)) (hC : (zy k).cls = "java/lang/String") (hk : Cond.code (zy k) (zcode k) (znl k) (zret k) ∈ zgt) (hw1 : Cond.methodLink own n (zy k) ∈ zgt) (hw2 : Cond.instanceMethod (zy k) ∈ zgt) (hw4 : Cond.selects (zy k).cls (zy k) (zy k) ∈ zgt) (hw3 : Cond.initialized (zy k).cls ∈ zgt) (hnl : znl k ≤ 40)
    (hd : (zy k).cls ≠ "java/lang/invoke/MethodHandle" ∧ (zy k).cls ≠ "java/lang/invoke/VarHandle" ∧ (parseMethodDescriptor (zy k).desc).map (fun d => d.parameters.length) = some nn) : zCall G L xs own cc nL ret pc 99 k (nn + 1) := by
  intro p l e R s m args below meth c cells slots Q d C0 X lo as st h r hn hr hN ls H locs hl hlen hP hS hX
  obtain ⟨hx, hb, hml, hown, hts, hK, hO, hJ, hrt, hlk⟩ := C0
  obtain ⟨h4, hrc, rfl⟩ := zcl_inv hr
  obtain ⟨r2, h2, hM, hN⟩ := hN
  obtain ⟨a, as, rfl, hrd⟩ := zrc_ref hrc (by omega)
  · rw [if_pos rfl] at hrd
    simp only [beq_iff_eq] at hrd
    obtain ⟨i, hi, rfl, -⟩ := zs_k5 hrd
    rw [List.map_append, List.map_reverse, List.map_cons, List.reverse_cons, List.append_assoc]
    exact zW_call rfl (va_runV (b := zad G (314 + 2 * i)) (As := as.map (zt G)) ⟨hx, hb, hml, hown, hts⟩ hM ⟨zCallB hts X hk hw1 hw3 hnl hd, hts _ hw2, hts _ hw4⟩ ⟨zPc_blind, by
      have h9 := vk_recv hO.2.2.2.1 hi hS
      rw [← hC] at h9
      exact h9, fun U hU hW => zPc_of hU hW hK hO hJ hP hS hX⟩ rfl (by rw [List.length_map]; simpa using hn) hl.1 rfl (lv_room (zok4_sum h4)) hdg ⟨X.2.2.1, X.2.2.2⟩) hS hl hlen hN
variable {ci k : Nat}
theorem s_c0 (hc : zCall G L xs own cc nL ret pc ci k 0) : zSnd G L xs own cc nL ret pc (oC0 ci k (pc + 3)) := by
  intro p l e R s m args below meth c cells slots Q d C X lo st h r hr hN
  exact hc p l e R s m args below meth c cells slots Q d C X lo [] st h r rfl hr hN
theorem s_c1 (hc : zCall G L xs own cc nL ret pc ci k 1) : zSnd G L xs own cc nL ret pc (oC1 ci k (pc + 3)) := by
  intro p l e R s m args below meth c cells slots Q d C X lo st h r hr hN
  match st, hr with
  | a :: st, hr => exact hc p l e R s m args below meth c cells slots Q d C X lo [a] st h r rfl hr hN
theorem s_c2 (hc : zCall G L xs own cc nL ret pc ci k 2) : zSnd G L xs own cc nL ret pc (oC2 ci k (pc + 3)) := by
  intro p l e R s m args below meth c cells slots Q d C X lo st h r hr hN
  match st, hr with
  | b :: a :: st, hr => exact hc p l e R s m args below meth c cells slots Q d C X lo [a, b] st h r rfl hr hN
theorem s_c3 (hc : zCall G L xs own cc nL ret pc ci k 3) : zSnd G L xs own cc nL ret pc (oC3 ci k (pc + 3)) := by
  intro p l e R s m args below meth c9 cells slots Q d C X lo st h r hr hN
  match st, hr with
  | c :: b :: a :: st, hr => exact hc p l e R s m args below meth c9 cells slots Q d C X lo [a, b, c] st h r rfl hr hN
theorem s_c4 (hc : zCall G L xs own cc nL ret pc ci k 4) : zSnd G L xs own cc nL ret pc (oC4 ci k (pc + 3)) := by
  intro p l e R s m args below meth c9 cells slots Q d C X lo st h r hr hN
  match st, hr with
  | d9 :: c :: b :: a :: st, hr => exact hc p l e R s m args below meth c9 cells slots Q d C X lo [a, b, c, d9] st h r rfl hr hN
theorem s_c5 (hc : zCall G L xs own cc nL ret pc ci k 5) : zSnd G L xs own cc nL ret pc (oC5 ci k (pc + 3)) := by
  intro p l e R s m args below meth c9 cells slots Q d C X lo st h r hr hN
  match st, hr with
  | e9 :: d9 :: c :: b :: a :: st, hr => exact hc p l e R s m args below meth c9 cells slots Q d C X lo [a, b, c, d9, e9] st h r rfl hr hN
theorem s_c6 (hc : zCall G L xs own cc nL ret pc ci k 6) : zSnd G L xs own cc nL ret pc (oC6 ci k (pc + 3)) := by
  intro p l e R s m args below meth c9 cells slots Q d C X lo st h r hr hN
  match st, hr with
  | f9 :: e9 :: d9 :: c :: b :: a :: st, hr => exact hc p l e R s m args below meth c9 cells slots Q d C X lo [a, b, c, d9, e9, f9] st h r rfl hr hN
theorem s_no : zSnd G L xs own cc nL ret pc (fun _ _ _ => none) := by
  intro p l e R s m args below meth c cells slots Q d C X lo st h r hr hN
  cases hr
theorem s_ret (hdg : decode cc pc = .ok (.return_, 1)) (hret : ret = none) : zSnd G L xs own cc nL ret pc oRet := by
  intro p l e R s m args below meth c cells slots Q d C X lo st h r hr hN ls H locs hl hlen hP hS hX
  match st, hr with
  | [], hr =>
    obtain rfl := Option.some.inj hr
    exact hN ls H locs pc [] (Or.inl ⟨hdg, hret, rfl, rfl⟩) hP hS hX
theorem s_iret (hdg : decode cc pc = .ok (.ireturn, 1)) (hret : ret = some .int) : zSnd G L xs own cc nL ret pc oIret := by
  intro p l e R s m args below meth c cells slots Q d C X lo st h r hr hN ls H locs hl hlen hP hS hX
  match st, hr with
  | [.int x], hr =>
    obtain rfl := Option.some.inj hr
    exact hN ls H locs pc [.int x] (Or.inr (Or.inl ⟨x, .int, hdg, hret, rfl, rfl, rfl⟩)) hP hS hX
theorem s_zret (hdg : decode cc pc = .ok (.ireturn, 1)) (hret : ret = some .boolean ∨ ret = some .byte) : zSnd G L xs own cc nL ret pc oZret := by
  intro p l e R s m args below meth c cells slots Q d C X lo st h r hr hN ls H locs hl hlen hP hS hX
  match st, hr with
  | [.int x], hr =>
    unfold oZret at hr
    dsimp only at hr
    split at hr
    · rename_i hx01
      obtain rfl := Option.some.inj hr
      rcases hret with e | e
      · exact hN ls H locs pc [.int x] (Or.inr (Or.inl ⟨x, .boolean, hdg, e, by rcases hx01 with rfl | rfl <;> decide, rfl, rfl⟩)) hP hS hX
      · exact hN ls H locs pc [.int x] (Or.inr (Or.inl ⟨x, .byte, hdg, e, by rcases hx01 with rfl | rfl <;> decide, rfl, rfl⟩)) hP hS hX
    · cases hr
theorem s_aret {ty : FieldType} (hdg : decode cc pc = .ok (.areturn, 1)) (hret : ret = some ty) (hty : (∃ n, ty = .object n) ∨ ∃ t, ty = .array t) : zSnd G L xs own cc nL ret pc oAret := by
  intro p l e R s m args below meth c cells slots Q d C X lo st h r hr hN ls H locs hl hlen hP hS hX
  match st, hr with
  | [.ref x], hr =>
    obtain rfl := Option.some.inj hr
    exact hN ls H locs pc [.ref (zad G x)] (Or.inr (Or.inr ⟨x, ty, hdg, hret, hty, rfl, rfl⟩)) hP hS hX
end SND3
