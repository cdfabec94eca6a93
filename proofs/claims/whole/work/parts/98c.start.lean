/-! ===== the start: what the Statement gives ===== -/
/-! THE CLAIM OUT OF ONE WALK OF THE LAW'S BODY. Your part is whole_start (and what it stands on); all else here is the same for every law, but numbers. -/
def R_law : String := "LoudMarketLaw"
def lw_P (b : Addr) (xs : List Int32) (args : Array Value) (s : State) : Prop := args = #[.ref b] ∧ s.IntsAt b xs ∧ xs.length ≤ 3072 ∧ (Jvm.Cond.and given_1 narrow_1).before args s = true
def lw_Q (_ : Array Value) (s : State) (o : Outcome) (t : State) : Prop := o = .returned (some (.int 1)) ∧ Framed s o t [] 600000 7302250
def lw_Z (below : List Frame) (a : Array Value) (s : State) : State → Prop := fun t => ∃ o, t.status = .running ∧ Ended t below o ∧ lw_Q a s o t
/-- the law's own end, with 1 on the stack, nothing written that was there before, its room as the claim has it -/
theorem lw_ret {p : Program} {l : Launch} {e : Env} {s : State} {m : MethodId} {below : List Frame} {meth : Method} {c : Code} {b : Nat} (hx : p.tables.exec = Jvm.exec) (hb : c.code = code) (hr : meth.sig.returnType = ret) (hlocks : meth.locks = false) {pc : Nat} {H : Heap} {ls : Array Slot} (hdg : decode code pc = .ok (.ireturn, 1)) : W p l e room_1 s m #[Value.ref b] below meth c H [] 600000 7302250 (lw_Z below #[Value.ref b] s) (F0 m pc ls [.int 1]) := by
  intro T hT X
  obtain ⟨fs, hret, hrun, hended, hW, hframe⟩ := X.leave (v := some (.int 1)) (hlocks := hlocks) (fun h => by rw [hr] at h; cases h)
  have hmeth' : T.vm.method? m = some meth := X.method'
  refine ⟨T.setFrames fs, ?_, .returned (some (.int 1)), hrun, hended, rfl, ⟨_, rfl⟩, hW, hframe⟩
  jvm_step X.here [X.here.top, hx, hb, hdg, hmeth', hr, ret, narrow_b1]
  (try refine ⟨rfl, ?_⟩); (try refine ⟨rfl, ?_⟩)
  first | (intro acts; rw [hret _ acts rfl rfl rfl]) | rw [hret _ _ rfl rfl rfl]
  exact Steps.refl _
/-- what holds at the law's entry: the machine, the code, the tables' words (any of lw_tbl by 'hts w (by decide +kernel)'), the script of L ints xs at the cell b, what the Statement gives of the start (any of its parts by flat_of_before) -/
def lw_At (p : Program) (s : State) (m : MethodId) (meth : Method) (c : Code) (b L : Nat) (xs : Nat → Int32) : Prop :=
  p.tables.exec = Jvm.exec ∧ c.code = code ∧ meth.sig.returnType = ret ∧ c.maxLocals = 4 ∧ s.vm.findClass R_law = some m.cls ∧ (∀ w ∈ lw_tbl, w.before #[Value.ref b] s = true) ∧ va_X b L xs s s.heap ∧ b < s.heap.size ∧ meth.locks = false ∧ (Jvm.Cond.and given_1 narrow_1).before #[Value.ref b] s = true
theorem xq {args : Array Value} {s : State} (h : (Jvm.Cond.and given_1 narrow_1).before args s = true) {n : Nat} {w : Jvm.Cond} (e : (flatC (Jvm.Cond.and given_1 narrow_1))[n]? = some w) : w.before args s = true := flat_of_before _ h _ (List.mem_of_getElem? e)
/-- where the objects come to lie, counted from the heap's end at the law's entry -/
def xoff (k : Nat) : Nat := if k ≤ 80 then k else if k ≤ 105 then k + 203 else k - 25
def xot (t0 t1 t2 t3 b : Nat) (adK adV : Nat → Nat) (k : Nat) : Nat := if k = 309 then t0 else if k = 310 then t1 else if k = 311 then t2 else if k = 312 then t3 else if k = 313 then b else if k % 2 = 0 then adK ((k - 314) / 2) else adV ((k - 315) / 2)
def xG (dC : Nat → ClassId) (dI : Nat → Nat → Nat) (cI : ClassId) (cA : Nat → ClassId) (b0 : Nat) (ot : Nat → Nat) : zG := (dC, dI, cI, cA, fun k => if k < 309 then b0 + xoff k else ot k)
theorem xG_lo {dC : Nat → ClassId} {dI : Nat → Nat → Nat} {cI : ClassId} {cA : Nat → ClassId} {b0 : Nat} {ot : Nat → Nat} {k : Nat} (h : k < 309) : zad (xG dC dI cI cA b0 ot) k = b0 + xoff k := if_pos h
theorem xG_hi {dC : Nat → ClassId} {dI : Nat → Nat → Nat} {cI : ClassId} {cA : Nat → ClassId} {b0 : Nat} {ot : Nat → Nat} {k : Nat} (h : ¬ k < 309) : zad (xG dC dI cI cA b0 ot) k = ot k := if_neg h
theorem xot_K {t0 t1 t2 t3 b : Nat} {adK adV : Nat → Nat} (i : Nat) : xot t0 t1 t2 t3 b adK adV (314 + 2 * i) = adK i := by
  unfold xot
  rw [if_neg (by omega), if_neg (by omega), if_neg (by omega), if_neg (by omega), if_neg (by omega), if_pos (by omega), show (314 + 2 * i - 314) / 2 = i by omega]
theorem xot_V {t0 t1 t2 t3 b : Nat} {adK adV : Nat → Nat} (i : Nat) : xot t0 t1 t2 t3 b adK adV (315 + 2 * i) = adV i := by
  unfold xot
  rw [if_neg (by omega), if_neg (by omega), if_neg (by omega), if_neg (by omega), if_neg (by omega), if_neg (by omega), show (315 + 2 * i - 315) / 2 = i by omega]
theorem xoff_inj : ∀ i j, i < 309 → j < 309 → xoff i = xoff j → i = j := by
  intro i j hi hj e
  unfold xoff at e
  (repeat' split at e) <;> omega
theorem xoff_lt : ∀ k, k < 309 → xoff k < 309 := by
  intro k hk
  unfold xoff
  split
  · omega
  · split <;> omega
theorem x_K {args : Array Value} {s : State} (hts : ∀ w ∈ lw_tbl, w.before args s = true) : ∃ (dC : Nat → ClassId) (dI : Nat → Nat → Nat) (cI : ClassId) (cA : Nat → ClassId), ∀ ad : Nat → Nat, va_K (zD (dC, dI, cI, cA, ad)) vwCl (ztys (dC, dI, cI, cA, ad)) s := by
  have htg : ∀ w ∈ zgt, w.before args s = true := fun w hw => hts w (List.mem_filter.mp hw).1
  obtain ⟨c0, i0, K0⟩ := u_known (C := RX0) (T := TX0) (N := 6) (n := 6) htg zing_X0 (hts _ (List.mem_append_right _ (List.mem_append_left _ (List.mem_of_getElem? (i := 129) rfl))))
  obtain ⟨c1, i1, K1⟩ := u_known (C := RX1) (T := TX1) (N := 1) (n := 1) htg zing_X1 (hts _ (List.mem_append_right _ (List.mem_append_left _ (List.mem_of_getElem? (i := 186) rfl))))
  obtain ⟨c2, i2, K2⟩ := u_known (C := RX2) (T := TX2) (N := 3) (n := 3) htg zing_X2 (hts _ (List.mem_append_right _ (List.mem_append_left _ (List.mem_of_getElem? (i := 198) rfl))))
  obtain ⟨c3, i3, K3⟩ := u_known (C := RX3) (T := TX3) (N := 6) (n := 6) htg zing_X3 (hts _ (List.mem_append_right _ (List.mem_append_left _ (List.mem_of_getElem? (i := 158) rfl))))
  obtain ⟨c4, i4, K4⟩ := u_known (C := RX4) (T := TX4) (N := 5) (n := 5) htg zing_X4 (hts _ (List.mem_append_right _ (List.mem_append_left _ (List.mem_of_getElem? (i := 33) rfl))))
  obtain ⟨c5, i5, K5⟩ := u_known (C := RX5) (T := TX5) (N := 15) (n := 15) htg zing_X5 (hts _ (List.mem_append_right _ (List.mem_append_left _ (List.mem_of_getElem? (i := 25) rfl))))
  obtain ⟨c6, i6, K6⟩ := u_known (C := RX6) (T := TX6) (N := 9) (n := 9) htg zing_X6 (hts _ (List.mem_append_right _ (List.mem_append_left _ (List.mem_of_getElem? (i := 17) rfl))))
  obtain ⟨c7, i7, K7⟩ := u_known (C := RX7) (T := TX7) (N := 22) (n := 22) htg zing_X7 (hts _ (List.mem_append_right _ (List.mem_append_right _ (List.mem_append_right _ (List.mem_append_right _ (List.mem_append_left _ (List.mem_of_getElem? (i := 61) rfl)))))))
  obtain ⟨cI, kI, pI, a1, a2, a3⟩ := Cond.arrayClass_spec (first := s) (o := none) (idx := []) (hts _ (List.mem_append_right _ (List.mem_append_left _ (List.mem_of_getElem? (i := 55) rfl))))
  obtain ⟨pM, cM, kM, m1, m2, m3, m4⟩ := Cond.arrayOver_specA (first := s) (o := none) (idx := []) (hts _ (List.mem_append_right _ (List.mem_append_left _ (List.mem_of_getElem? (i := 31) rfl))))
  obtain ⟨pQ, cQ, kQ, q1, -, q2, q3, q4⟩ := Cond.arrayOver_spec (first := s) (o := none) (idx := []) (hts _ (List.mem_append_right _ (List.mem_append_left _ (List.mem_of_getElem? (i := 197) rfl))))
  refine ⟨fun k => [c0, c1, c2, c3, c4, c5, c6, c7].getD k c0, fun k => [i0, i1, i2, i3, i4, i5, i6, i7].getD k i0, cI, fun k => if k = 1 then cM else cQ, fun ad => ⟨?_, ?_⟩⟩
  · intro k q hq
    match k, hq with
    | 0, hq => cases hq; exact K0
    | 1, hq => cases hq; exact K1
    | 2, hq => cases hq; exact K2
    | 3, hq => cases hq; exact K3
    | 4, hq => cases hq; exact K4
    | 5, hq => cases hq; exact K5
    | 6, hq => cases hq; exact K6
    | 7, hq => cases hq; exact K7
    | k + 8, hq => rw [List.getElem?_eq_none (by show 8 ≤ k + 8; omega)] at hq; cases hq
  · intro k q hq
    match k, hq with
    | 0, hq => cases hq; exact ⟨fun n z => ⟨(fun k h => by cases h), kI, a2, pI, a3⟩, a1⟩
    | 1, hq => cases hq; exact ⟨fun n z => ⟨(fun k h => by cases h), kM, m2, pM, m3⟩, m4⟩
    | 2, hq => cases hq; exact ⟨fun n z => ⟨(fun k h => by cases h), kQ, q2, pQ, q3⟩, kQ, pQ, q2, q3, q1, q4⟩
    | k + 3, hq => rw [List.getElem?_eq_none (by show 3 ≤ k + 3; omega)] at hq; cases hq
theorem xs_309 {args : Array Value} {s : State} {A : Nat → Prop} (hts : ∀ w ∈ lw_tbl, w.before args s = true) (hgv : (Jvm.Cond.and given_1 narrow_1).before args s = true) (hA : ∀ a : Nat, a < s.heap.size → ¬ A a) : ∃ t : Nat, va_Z "LoudMarket" "KIND_ABOVE" "[I" (.ref t) A s s.heap ∧ va_T .int t (zsh 309).2.2.2.length (fun j => .int ((zsh 309).2.2.2.getD j 0)) A s s.heap := by
  rw [zsh_309]
  have hel : ∀ j, j < 7 → (Term.elem (Jvm.Term.static "LoudMarket" "KIND_ABOVE" "[I") (.int (Int32.ofNat j))).eval args s none [] s = some (.int (([-1, 0, 1, 1, 1, 0, 1] : List Int32).getD j 0)) := lt_s (lt_s (lt_s (lt_s (lt_s (lt_s (lt_s (lt_0) (va_eqt (xq hgv (n := 14) rfl))) (va_eqt (xq hgv (n := 15) rfl))) (va_eqt (xq hgv (n := 16) rfl))) (va_eqt (xq hgv (n := 17) rfl))) (va_eqt (xq hgv (n := 18) rfl))) (va_eqt (xq hgv (n := 19) rfl))) (va_eqt (xq hgv (n := 20) rfl))
  obtain ⟨t, ht, hT⟩ := va_Tof (tm := (Jvm.Term.static "LoudMarket" "KIND_ABOVE" "[I")) (ty := .int) (N := 7) (f := fun j => .int (([-1, 0, 1, 1, 1, 0, 1] : List Int32).getD j 0)) (A := A) (by decide) (xq hgv (n := 12) rfl) (va_eqt (xq hgv (n := 13) rfl)) hel hA
  exact ⟨t, va_Zref (hts _ (List.mem_append_right _ (List.mem_append_right _ (List.mem_append_left _ (List.mem_of_getElem? (i := 120) rfl))))) (hts _ (List.mem_append_right _ (List.mem_append_left _ (List.mem_of_getElem? (i := 1) rfl)))) ht hA, hT⟩
theorem xs_310 {args : Array Value} {s : State} {A : Nat → Prop} (hts : ∀ w ∈ lw_tbl, w.before args s = true) (hgv : (Jvm.Cond.and given_1 narrow_1).before args s = true) (hA : ∀ a : Nat, a < s.heap.size → ¬ A a) : ∃ t : Nat, va_Z "LoudMarket" "MOST_SET" "[I" (.ref t) A s s.heap ∧ va_T .int t (zsh 310).2.2.2.length (fun j => .int ((zsh 310).2.2.2.getD j 0)) A s s.heap := by
  rw [zsh_310]
  have hel : ∀ j, j < 8 → (Term.elem (Jvm.Term.static "LoudMarket" "MOST_SET" "[I") (.int (Int32.ofNat j))).eval args s none [] s = some (.int (([6, 99, 79, 99, 99, 99, -1, 1] : List Int32).getD j 0)) := lt_s (lt_s (lt_s (lt_s (lt_s (lt_s (lt_s (lt_s (lt_0) (va_eqt (xq hgv (n := 24) rfl))) (va_eqt (xq hgv (n := 25) rfl))) (va_eqt (xq hgv (n := 26) rfl))) (va_eqt (xq hgv (n := 27) rfl))) (va_eqt (xq hgv (n := 28) rfl))) (va_eqt (xq hgv (n := 29) rfl))) (va_eqt (xq hgv (n := 30) rfl))) (va_eqt (xq hgv (n := 31) rfl))
  obtain ⟨t, ht, hT⟩ := va_Tof (tm := (Jvm.Term.static "LoudMarket" "MOST_SET" "[I")) (ty := .int) (N := 8) (f := fun j => .int (([6, 99, 79, 99, 99, 99, -1, 1] : List Int32).getD j 0)) (A := A) (by decide) (xq hgv (n := 22) rfl) (va_eqt (xq hgv (n := 23) rfl)) hel hA
  exact ⟨t, va_Zref (hts _ (List.mem_append_right _ (List.mem_append_right _ (List.mem_append_left _ (List.mem_of_getElem? (i := 126) rfl))))) (hts _ (List.mem_append_right _ (List.mem_append_left _ (List.mem_of_getElem? (i := 1) rfl)))) ht hA, hT⟩
theorem xs_311 {args : Array Value} {s : State} {A : Nat → Prop} (hts : ∀ w ∈ lw_tbl, w.before args s = true) (hgv : (Jvm.Cond.and given_1 narrow_1).before args s = true) (hA : ∀ a : Nat, a < s.heap.size → ¬ A a) : ∃ t : Nat, va_Z "LoudMarket" "MOST_LAW" "[I" (.ref t) A s s.heap ∧ va_T .int t (zsh 311).2.2.2.length (fun j => .int ((zsh 311).2.2.2.getD j 0)) A s s.heap := by
  rw [zsh_311]
  have hel : ∀ j, j < 3 → (Term.elem (Jvm.Term.static "LoudMarket" "MOST_LAW" "[I") (.int (Int32.ofNat j))).eval args s none [] s = some (.int (([1, 99, 1] : List Int32).getD j 0)) := lt_s (lt_s (lt_s (lt_0) (va_eqt (xq hgv (n := 8) rfl))) (va_eqt (xq hgv (n := 9) rfl))) (va_eqt (xq hgv (n := 10) rfl))
  obtain ⟨t, ht, hT⟩ := va_Tof (tm := (Jvm.Term.static "LoudMarket" "MOST_LAW" "[I")) (ty := .int) (N := 3) (f := fun j => .int (([1, 99, 1] : List Int32).getD j 0)) (A := A) (by decide) (xq hgv (n := 6) rfl) (va_eqt (xq hgv (n := 7) rfl)) hel hA
  exact ⟨t, va_Zref (hts _ (List.mem_append_right _ (List.mem_append_right _ (List.mem_append_left _ (List.mem_of_getElem? (i := 28) rfl))))) (hts _ (List.mem_append_right _ (List.mem_append_left _ (List.mem_of_getElem? (i := 1) rfl)))) ht hA, hT⟩
theorem xs_312 {args : Array Value} {s : State} {A : Nat → Prop} (hts : ∀ w ∈ lw_tbl, w.before args s = true) (hgv : (Jvm.Cond.and given_1 narrow_1).before args s = true) (hA : ∀ a : Nat, a < s.heap.size → ¬ A a) : ∃ t : Nat, va_Z "LoudMarket$Speaker" "BODIES" "[I" (.ref t) A s s.heap ∧ va_T .int t (zsh 312).2.2.2.length (fun j => .int ((zsh 312).2.2.2.getD j 0)) A s s.heap := by
  rw [zsh_312]
  have hel : ∀ j, j < 28 → (Term.elem (Jvm.Term.static "LoudMarket$Speaker" "BODIES" "[I") (.int (Int32.ofNat j))).eval args s none [] s = some (.int (([10, 11, 12, 13, 20, 0, 0, 21, 0, 30, 0, 0, 41, 0, 40, 0, 50, 0, 0, 0, 0, 60, 61, 0, 70, 0, 0, 71] : List Int32).getD j 0)) := lt_s (lt_s (lt_s (lt_s (lt_s (lt_s (lt_s (lt_s (lt_s (lt_s (lt_s (lt_s (lt_s (lt_s (lt_s (lt_s (lt_s (lt_s (lt_s (lt_s (lt_s (lt_s (lt_s (lt_s (lt_s (lt_s (lt_s (lt_s (lt_0) (va_eqt (xq hgv (n := 39) rfl))) (va_eqt (xq hgv (n := 40) rfl))) (va_eqt (xq hgv (n := 41) rfl))) (va_eqt (xq hgv (n := 42) rfl))) (va_eqt (xq hgv (n := 43) rfl))) (va_eqt (xq hgv (n := 44) rfl))) (va_eqt (xq hgv (n := 45) rfl))) (va_eqt (xq hgv (n := 46) rfl))) (va_eqt (xq hgv (n := 47) rfl))) (va_eqt (xq hgv (n := 48) rfl))) (va_eqt (xq hgv (n := 49) rfl))) (va_eqt (xq hgv (n := 50) rfl))) (va_eqt (xq hgv (n := 51) rfl))) (va_eqt (xq hgv (n := 52) rfl))) (va_eqt (xq hgv (n := 53) rfl))) (va_eqt (xq hgv (n := 54) rfl))) (va_eqt (xq hgv (n := 55) rfl))) (va_eqt (xq hgv (n := 56) rfl))) (va_eqt (xq hgv (n := 57) rfl))) (va_eqt (xq hgv (n := 58) rfl))) (va_eqt (xq hgv (n := 59) rfl))) (va_eqt (xq hgv (n := 60) rfl))) (va_eqt (xq hgv (n := 61) rfl))) (va_eqt (xq hgv (n := 62) rfl))) (va_eqt (xq hgv (n := 63) rfl))) (va_eqt (xq hgv (n := 64) rfl))) (va_eqt (xq hgv (n := 65) rfl))) (va_eqt (xq hgv (n := 66) rfl))
  obtain ⟨t, ht, hT⟩ := va_Tof (tm := (Jvm.Term.static "LoudMarket$Speaker" "BODIES" "[I")) (ty := .int) (N := 28) (f := fun j => .int (([10, 11, 12, 13, 20, 0, 0, 21, 0, 30, 0, 0, 41, 0, 40, 0, 50, 0, 0, 0, 0, 60, 61, 0, 70, 0, 0, 71] : List Int32).getD j 0)) (A := A) (by decide) (xq hgv (n := 37) rfl) (va_eqt (xq hgv (n := 38) rfl)) hel hA
  exact ⟨t, va_Zref (hts _ (List.mem_append_right _ (List.mem_append_right _ (List.mem_append_right _ (List.mem_append_left _ (List.mem_of_getElem? (i := 205) rfl)))))) (hts _ (List.mem_append_right _ (List.mem_append_left _ (List.mem_of_getElem? (i := 6) rfl)))) ht hA, hT⟩
def xtm (i : Nat) : Term := ([(Jvm.Term.string "LoudMarket$World" (33 : Nat)), (Jvm.Term.string "LoudMarket$Reader" (32 : Nat)), (Jvm.Term.string "LoudMarket" (126 : Nat)), (Jvm.Term.string "LoudMarket$Reader" (96 : Nat)), (Jvm.Term.string "LoudMarket$Reader" (64 : Nat)), (Jvm.Term.string "LoudMarket$Reader" (66 : Nat)), (Jvm.Term.string "LoudMarket$Reader" (68 : Nat)), (Jvm.Term.string "LoudMarket$Reader" (70 : Nat)), (Jvm.Term.string "LoudMarket$Reader" (72 : Nat))] : List Term).getD i (.int 0)
theorem xt_ex {args : Array Value} {s : State} (hgv : (Jvm.Cond.and given_1 narrow_1).before args s = true) : ∀ i, i < 9 → (Cond.exactly (xtm i) "java/lang/String").before args s = true := lt_s (lt_s (lt_s (lt_s (lt_s (lt_s (lt_s (lt_s (lt_s (lt_0) ((xq hgv (n := 67) rfl))) ((xq hgv (n := 76) rfl))) ((xq hgv (n := 92) rfl))) ((xq hgv (n := 102) rfl))) ((xq hgv (n := 111) rfl))) ((xq hgv (n := 121) rfl))) ((xq hgv (n := 132) rfl))) ((xq hgv (n := 146) rfl))) ((xq hgv (n := 160) rfl))
theorem xt_co {args : Array Value} {s : State} (hgv : (Jvm.Cond.and given_1 narrow_1).before args s = true) : ∀ i, i < 9 → (Cond.eq (.field (xtm i) "java/lang/String" "coder" "B") (.int 0)).before args s = true := lt_s (lt_s (lt_s (lt_s (lt_s (lt_s (lt_s (lt_s (lt_s (lt_0) ((xq hgv (n := 68) rfl))) ((xq hgv (n := 77) rfl))) ((xq hgv (n := 93) rfl))) ((xq hgv (n := 103) rfl))) ((xq hgv (n := 112) rfl))) ((xq hgv (n := 122) rfl))) ((xq hgv (n := 133) rfl))) ((xq hgv (n := 147) rfl))) ((xq hgv (n := 161) rfl))
theorem xt_ar {args : Array Value} {s : State} (hgv : (Jvm.Cond.and given_1 narrow_1).before args s = true) : ∀ i, i < 9 → (Cond.arrayOf (.field (xtm i) "java/lang/String" "value" "[B") .byte).before args s = true := lt_s (lt_s (lt_s (lt_s (lt_s (lt_s (lt_s (lt_s (lt_s (lt_0) ((xq hgv (n := 69) rfl))) ((xq hgv (n := 78) rfl))) ((xq hgv (n := 94) rfl))) ((xq hgv (n := 104) rfl))) ((xq hgv (n := 113) rfl))) ((xq hgv (n := 123) rfl))) ((xq hgv (n := 134) rfl))) ((xq hgv (n := 148) rfl))) ((xq hgv (n := 162) rfl))
theorem xt_le {args : Array Value} {s : State} (hgv : (Jvm.Cond.and given_1 narrow_1).before args s = true) : ∀ i, i < 9 → (Cond.eq (.length (.field (xtm i) "java/lang/String" "value" "[B")) (.int (Int32.ofNat (zlen.getD i 0)))).before args s = true := lt_s (lt_s (lt_s (lt_s (lt_s (lt_s (lt_s (lt_s (lt_s (lt_0) ((xq hgv (n := 70) rfl))) ((xq hgv (n := 79) rfl))) ((xq hgv (n := 95) rfl))) ((xq hgv (n := 105) rfl))) ((xq hgv (n := 114) rfl))) ((xq hgv (n := 124) rfl))) ((xq hgv (n := 135) rfl))) ((xq hgv (n := 149) rfl))) ((xq hgv (n := 163) rfl))
theorem xt_el0 {args : Array Value} {s : State} (hgv : (Jvm.Cond.and given_1 narrow_1).before args s = true) : ∀ j, j < 5 → (Cond.eq (.elem (.field (xtm 0) "java/lang/String" "value" "[B") (.int (Int32.ofNat j))) (.int ((zbyt.getD 0 []).getD j 0))).before args s = true := lt_s (lt_s (lt_s (lt_s (lt_s (lt_0) ((xq hgv (n := 71) rfl))) ((xq hgv (n := 72) rfl))) ((xq hgv (n := 73) rfl))) ((xq hgv (n := 74) rfl))) ((xq hgv (n := 75) rfl))
theorem xt_el1 {args : Array Value} {s : State} (hgv : (Jvm.Cond.and given_1 narrow_1).before args s = true) : ∀ j, j < 0 → (Cond.eq (.elem (.field (xtm 1) "java/lang/String" "value" "[B") (.int (Int32.ofNat j))) (.int ((zbyt.getD 1 []).getD j 0))).before args s = true := lt_0
theorem xt_el2 {args : Array Value} {s : State} (hgv : (Jvm.Cond.and given_1 narrow_1).before args s = true) : ∀ j, j < 3 → (Cond.eq (.elem (.field (xtm 2) "java/lang/String" "value" "[B") (.int (Int32.ofNat j))) (.int ((zbyt.getD 2 []).getD j 0))).before args s = true := lt_s (lt_s (lt_s (lt_0) ((xq hgv (n := 96) rfl))) ((xq hgv (n := 97) rfl))) ((xq hgv (n := 98) rfl))
theorem xt_el3 {args : Array Value} {s : State} (hgv : (Jvm.Cond.and given_1 narrow_1).before args s = true) : ∀ j, j < 1 → (Cond.eq (.elem (.field (xtm 3) "java/lang/String" "value" "[B") (.int (Int32.ofNat j))) (.int ((zbyt.getD 3 []).getD j 0))).before args s = true := lt_s (lt_0) ((xq hgv (n := 106) rfl))
theorem xt_el4 {args : Array Value} {s : State} (hgv : (Jvm.Cond.and given_1 narrow_1).before args s = true) : ∀ j, j < 1 → (Cond.eq (.elem (.field (xtm 4) "java/lang/String" "value" "[B") (.int (Int32.ofNat j))) (.int ((zbyt.getD 4 []).getD j 0))).before args s = true := lt_s (lt_0) ((xq hgv (n := 115) rfl))
theorem xt_el5 {args : Array Value} {s : State} (hgv : (Jvm.Cond.and given_1 narrow_1).before args s = true) : ∀ j, j < 1 → (Cond.eq (.elem (.field (xtm 5) "java/lang/String" "value" "[B") (.int (Int32.ofNat j))) (.int ((zbyt.getD 5 []).getD j 0))).before args s = true := lt_s (lt_0) ((xq hgv (n := 125) rfl))
theorem xt_el6 {args : Array Value} {s : State} (hgv : (Jvm.Cond.and given_1 narrow_1).before args s = true) : ∀ j, j < 3 → (Cond.eq (.elem (.field (xtm 6) "java/lang/String" "value" "[B") (.int (Int32.ofNat j))) (.int ((zbyt.getD 6 []).getD j 0))).before args s = true := lt_s (lt_s (lt_s (lt_0) ((xq hgv (n := 136) rfl))) ((xq hgv (n := 137) rfl))) ((xq hgv (n := 138) rfl))
theorem xt_el7 {args : Array Value} {s : State} (hgv : (Jvm.Cond.and given_1 narrow_1).before args s = true) : ∀ j, j < 2 → (Cond.eq (.elem (.field (xtm 7) "java/lang/String" "value" "[B") (.int (Int32.ofNat j))) (.int ((zbyt.getD 7 []).getD j 0))).before args s = true := lt_s (lt_s (lt_0) ((xq hgv (n := 150) rfl))) ((xq hgv (n := 151) rfl))
theorem xt_el8 {args : Array Value} {s : State} (hgv : (Jvm.Cond.and given_1 narrow_1).before args s = true) : ∀ j, j < 3 → (Cond.eq (.elem (.field (xtm 8) "java/lang/String" "value" "[B") (.int (Int32.ofNat j))) (.int ((zbyt.getD 8 []).getD j 0))).before args s = true := lt_s (lt_s (lt_s (lt_0) ((xq hgv (n := 164) rfl))) ((xq hgv (n := 165) rfl))) ((xq hgv (n := 166) rfl))
theorem xt_el {args : Array Value} {s : State} (hgv : (Jvm.Cond.and given_1 narrow_1).before args s = true) : ∀ i, i < 9 → ∀ j, j < zlen.getD i 0 → (Cond.eq (.elem (.field (xtm i) "java/lang/String" "value" "[B") (.int (Int32.ofNat j))) (.int ((zbyt.getD i []).getD j 0))).before args s = true := lt_s (lt_s (lt_s (lt_s (lt_s (lt_s (lt_s (lt_s (lt_s (lt_0) (xt_el0 hgv)) (xt_el1 hgv)) (xt_el2 hgv)) (xt_el3 hgv)) (xt_el4 hgv)) (xt_el5 hgv)) (xt_el6 hgv)) (xt_el7 hgv)) (xt_el8 hgv)
theorem xt_ne0 {args : Array Value} {s : State} (hgv : (Jvm.Cond.and given_1 narrow_1).before args s = true) : ∀ i, i < 0 → (Cond.not (Cond.eq (xtm i) (xtm 0))).before args s = true := lt_0
theorem xt_ne1 {args : Array Value} {s : State} (hgv : (Jvm.Cond.and given_1 narrow_1).before args s = true) : ∀ i, i < 1 → (Cond.not (Cond.eq (xtm i) (xtm 1))).before args s = true := lt_s (lt_0) ((xq hgv (n := 80) rfl))
theorem xt_ne2 {args : Array Value} {s : State} (hgv : (Jvm.Cond.and given_1 narrow_1).before args s = true) : ∀ i, i < 2 → (Cond.not (Cond.eq (xtm i) (xtm 2))).before args s = true := lt_s (lt_s (lt_0) ((xq hgv (n := 99) rfl))) ((xq hgv (n := 100) rfl))
theorem xt_ne3 {args : Array Value} {s : State} (hgv : (Jvm.Cond.and given_1 narrow_1).before args s = true) : ∀ i, i < 3 → (Cond.not (Cond.eq (xtm i) (xtm 3))).before args s = true := lt_s (lt_s (lt_s (lt_0) ((xq hgv (n := 107) rfl))) ((xq hgv (n := 108) rfl))) ((xq hgv (n := 110) rfl))
theorem xt_ne4 {args : Array Value} {s : State} (hgv : (Jvm.Cond.and given_1 narrow_1).before args s = true) : ∀ i, i < 4 → (Cond.not (Cond.eq (xtm i) (xtm 4))).before args s = true := lt_s (lt_s (lt_s (lt_s (lt_0) ((xq hgv (n := 116) rfl))) ((xq hgv (n := 117) rfl))) ((xq hgv (n := 119) rfl))) ((xq hgv (n := 120) rfl))
theorem xt_ne5 {args : Array Value} {s : State} (hgv : (Jvm.Cond.and given_1 narrow_1).before args s = true) : ∀ i, i < 5 → (Cond.not (Cond.eq (xtm i) (xtm 5))).before args s = true := lt_s (lt_s (lt_s (lt_s (lt_s (lt_0) ((xq hgv (n := 126) rfl))) ((xq hgv (n := 127) rfl))) ((xq hgv (n := 129) rfl))) ((xq hgv (n := 130) rfl))) ((xq hgv (n := 131) rfl))
theorem xt_ne6 {args : Array Value} {s : State} (hgv : (Jvm.Cond.and given_1 narrow_1).before args s = true) : ∀ i, i < 6 → (Cond.not (Cond.eq (xtm i) (xtm 6))).before args s = true := lt_s (lt_s (lt_s (lt_s (lt_s (lt_s (lt_0) ((xq hgv (n := 139) rfl))) ((xq hgv (n := 140) rfl))) ((xq hgv (n := 142) rfl))) ((xq hgv (n := 143) rfl))) ((xq hgv (n := 144) rfl))) ((xq hgv (n := 145) rfl))
theorem xt_ne7 {args : Array Value} {s : State} (hgv : (Jvm.Cond.and given_1 narrow_1).before args s = true) : ∀ i, i < 7 → (Cond.not (Cond.eq (xtm i) (xtm 7))).before args s = true := lt_s (lt_s (lt_s (lt_s (lt_s (lt_s (lt_s (lt_0) ((xq hgv (n := 152) rfl))) ((xq hgv (n := 153) rfl))) ((xq hgv (n := 155) rfl))) ((xq hgv (n := 156) rfl))) ((xq hgv (n := 157) rfl))) ((xq hgv (n := 158) rfl))) ((xq hgv (n := 159) rfl))
theorem xt_ne8 {args : Array Value} {s : State} (hgv : (Jvm.Cond.and given_1 narrow_1).before args s = true) : ∀ i, i < 8 → (Cond.not (Cond.eq (xtm i) (xtm 8))).before args s = true := lt_s (lt_s (lt_s (lt_s (lt_s (lt_s (lt_s (lt_s (lt_0) ((xq hgv (n := 167) rfl))) ((xq hgv (n := 168) rfl))) ((xq hgv (n := 170) rfl))) ((xq hgv (n := 171) rfl))) ((xq hgv (n := 172) rfl))) ((xq hgv (n := 173) rfl))) ((xq hgv (n := 174) rfl))) ((xq hgv (n := 175) rfl))
theorem xt_ne {args : Array Value} {s : State} (hgv : (Jvm.Cond.and given_1 narrow_1).before args s = true) : ∀ j, j < 9 → ∀ i, i < j → (Cond.not (Cond.eq (xtm i) (xtm j))).before args s = true := lt_s (lt_s (lt_s (lt_s (lt_s (lt_s (lt_s (lt_s (lt_s (lt_0) (xt_ne0 hgv)) (xt_ne1 hgv)) (xt_ne2 hgv)) (xt_ne3 hgv)) (xt_ne4 hgv)) (xt_ne5 hgv)) (xt_ne6 hgv)) (xt_ne7 hgv)) (xt_ne8 hgv)
theorem xt_S {args : Array Value} {s : State} {A : Nat → Prop} (hgv : (Jvm.Cond.and given_1 narrow_1).before args s = true) (hA : ∀ a : Nat, a < s.heap.size → ¬ A a) : ∃ adK adV : Nat → Nat, vk_S 9 zlen zbyt adK adV A s s.heap ∧ ∀ i : Nat, i < 9 → (xtm i).eval args s none [] s = some (.ref (adK i)) :=
  vk_Sof (tm := xtm) (by decide) (xt_ex hgv) (xt_co hgv) (xt_ar hgv) (xt_le hgv) (xt_el hgv) (fun i j hi hj e => by
    rcases Nat.lt_or_gt_of_ne e with h | h
    · exact Or.inl (xt_ne hgv j hj i h)
    · exact Or.inr (xt_ne hgv i hi j h)) hA
theorem xt_R {args : Array Value} {s : State} {adK : Nat → Nat} (hts : ∀ w ∈ lw_tbl, w.before args s = true) (hgv : (Jvm.Cond.and given_1 narrow_1).before args s = true) (ev : ∀ i : Nat, i < 9 → (xtm i).eval args s none [] s = some (.ref (adK i))) : ∀ q ∈ zstr, vk_R q.1 q.2.1 q.2.2.1 (adK q.2.2.2) s := by
  have e0 : (Term.string "LoudMarket" 124).eval args s none [] s = some (.ref (adK 0)) := va_eqR (t := (Jvm.Term.string "LoudMarket$World" (33 : Nat))) (xq hgv (n := 90) rfl) (ev 0 (by decide))
  exact List.forall_mem_cons.mpr ⟨vk_R.of (hts _ (List.mem_append_right _ (List.mem_append_left _ (List.mem_of_getElem? (i := 56) rfl)))) (ev 0 (by decide)), List.forall_mem_cons.mpr ⟨vk_R.of (hts _ (List.mem_append_right _ (List.mem_append_right _ (List.mem_append_left _ (List.mem_of_getElem? (i := 144) rfl))))) e0, List.forall_mem_cons.mpr ⟨vk_R.of (hts _ (List.mem_append_right _ (List.mem_append_left _ (List.mem_of_getElem? (i := 136) rfl)))) (ev 1 (by decide)), List.forall_mem_cons.mpr ⟨vk_R.of (hts _ (List.mem_append_right _ (List.mem_append_right _ (List.mem_append_left _ (List.mem_of_getElem? (i := 145) rfl))))) (ev 2 (by decide)), List.forall_mem_cons.mpr ⟨vk_R.of (hts _ (List.mem_append_right _ (List.mem_append_right _ (List.mem_append_right _ (List.mem_append_left _ (List.mem_of_getElem? (i := 13) rfl)))))) (ev 3 (by decide)), List.forall_mem_cons.mpr ⟨vk_R.of (hts _ (List.mem_append_right _ (List.mem_append_right _ (List.mem_append_right _ (List.mem_append_left _ (List.mem_of_getElem? (i := 21) rfl)))))) (ev 4 (by decide)), List.forall_mem_cons.mpr ⟨vk_R.of (hts _ (List.mem_append_right _ (List.mem_append_right _ (List.mem_append_right _ (List.mem_append_left _ (List.mem_of_getElem? (i := 22) rfl)))))) (ev 5 (by decide)), List.forall_mem_cons.mpr ⟨vk_R.of (hts _ (List.mem_append_right _ (List.mem_append_right _ (List.mem_append_right _ (List.mem_append_left _ (List.mem_of_getElem? (i := 23) rfl)))))) (ev 6 (by decide)), List.forall_mem_cons.mpr ⟨vk_R.of (hts _ (List.mem_append_right _ (List.mem_append_right _ (List.mem_append_right _ (List.mem_append_left _ (List.mem_of_getElem? (i := 24) rfl)))))) (ev 7 (by decide)), List.forall_mem_cons.mpr ⟨vk_R.of (hts _ (List.mem_append_right _ (List.mem_append_right _ (List.mem_append_right _ (List.mem_append_left _ (List.mem_of_getElem? (i := 25) rfl)))))) (ev 8 (by decide)), fun _ h => absurd h List.not_mem_nil⟩⟩⟩⟩⟩⟩⟩⟩⟩⟩
theorem x_nw1 {args : Array Value} {s : State} (hts : ∀ w ∈ lw_tbl, w.before args s = true) : ∀ q ∈ xmn, va_Nw (.methodLinkNest q.1 q.2.1 q.2.2 "LoudMarket") s := List.forall_mem_cons.mpr ⟨va_Nw.of rfl (hts _ (List.mem_append_right _ (List.mem_append_left _ (List.mem_of_getElem? (i := 26) rfl)))), List.forall_mem_cons.mpr ⟨va_Nw.of rfl (hts _ (List.mem_append_right _ (List.mem_append_left _ (List.mem_of_getElem? (i := 130) rfl)))), List.forall_mem_cons.mpr ⟨va_Nw.of rfl (hts _ (List.mem_append_right _ (List.mem_append_left _ (List.mem_of_getElem? (i := 159) rfl)))), List.forall_mem_cons.mpr ⟨va_Nw.of rfl (hts _ (List.mem_append_right _ (List.mem_append_left _ (List.mem_of_getElem? (i := 187) rfl)))), List.forall_mem_cons.mpr ⟨va_Nw.of rfl (hts _ (List.mem_append_right _ (List.mem_append_left _ (List.mem_of_getElem? (i := 199) rfl)))), List.forall_mem_cons.mpr ⟨va_Nw.of rfl (hts _ (List.mem_append_right _ (List.mem_append_left _ (List.mem_of_getElem? (i := 135) rfl)))), List.forall_mem_cons.mpr ⟨va_Nw.of rfl (hts _ (List.mem_append_right _ (List.mem_append_left _ (List.mem_of_getElem? (i := 34) rfl)))), fun _ h => absurd h List.not_mem_nil⟩⟩⟩⟩⟩⟩⟩
theorem x_nw2 {args : Array Value} {s : State} (hts : ∀ w ∈ lw_tbl, w.before args s = true) : ∀ q ∈ zmn, va_Nw (.methodLinkNest q.1 q.2.1 q.2.2.1 q.2.2.2) s := List.forall_mem_cons.mpr ⟨va_Nw.of rfl (hts _ (List.mem_append_right _ (List.mem_append_right _ (List.mem_append_left _ (List.mem_of_getElem? (i := 63) rfl))))), List.forall_mem_cons.mpr ⟨va_Nw.of rfl (hts _ (List.mem_append_right _ (List.mem_append_right _ (List.mem_append_left _ (List.mem_of_getElem? (i := 76) rfl))))), List.forall_mem_cons.mpr ⟨va_Nw.of rfl (hts _ (List.mem_append_right _ (List.mem_append_right _ (List.mem_append_left _ (List.mem_of_getElem? (i := 88) rfl))))), List.forall_mem_cons.mpr ⟨va_Nw.of rfl (hts _ (List.mem_append_right _ (List.mem_append_right _ (List.mem_append_left _ (List.mem_of_getElem? (i := 96) rfl))))), List.forall_mem_cons.mpr ⟨va_Nw.of rfl (hts _ (List.mem_append_right _ (List.mem_append_right _ (List.mem_append_left _ (List.mem_of_getElem? (i := 102) rfl))))), List.forall_mem_cons.mpr ⟨va_Nw.of rfl (hts _ (List.mem_append_right _ (List.mem_append_right _ (List.mem_append_left _ (List.mem_of_getElem? (i := 167) rfl))))), List.forall_mem_cons.mpr ⟨va_Nw.of rfl (hts _ (List.mem_append_right _ (List.mem_append_right _ (List.mem_append_right _ (List.mem_append_left _ (List.mem_of_getElem? (i := 167) rfl)))))), List.forall_mem_cons.mpr ⟨va_Nw.of rfl (hts _ (List.mem_append_right _ (List.mem_append_right _ (List.mem_append_right _ (List.mem_append_left _ (List.mem_of_getElem? (i := 203) rfl)))))), fun _ h => absurd h List.not_mem_nil⟩⟩⟩⟩⟩⟩⟩⟩
theorem x_nw3 {args : Array Value} {s : State} (hts : ∀ w ∈ lw_tbl, w.before args s = true) : va_Nw (.fieldLinkNest RX3 44 "LoudMarket" "KIND_ABOVE" "[I" "LoudMarket") s := va_Nw.of rfl (hts _ (List.mem_append_right _ (List.mem_append_right _ (List.mem_append_right _ (List.mem_append_left _ (List.mem_of_getElem? (i := 222) rfl))))))
/-- all that stands at the law's entry, over one numbering -/
theorem x_world {s : State} {b L : Nat} {xs : Nat → Int32} (hts : ∀ w ∈ lw_tbl, w.before #[Value.ref b] s = true) (hgv : (Jvm.Cond.and given_1 narrow_1).before #[Value.ref b] s = true) (hX : va_X b L xs s s.heap) (hbl : b < s.heap.size) : ∃ (dC : Nat → ClassId) (dI : Nat → Nat → Nat) (cI : ClassId) (cA : Nat → ClassId) (ot : Nat → Nat), va_K (zD (xG dC dI cI cA s.heap.size ot)) vwCl (ztys (xG dC dI cI cA s.heap.size ot)) s ∧ xFO (xG dC dI cI cA s.heap.size ot) s.heap.size s ∧ zFO (xG dC dI cI cA s.heap.size ot) L xs s ∧ ot 313 = b := by
  have hA : ∀ a : Nat, a < s.heap.size → ¬ xA s.heap.size a := fun a ha h => absurd ha (Nat.not_lt.mpr h)
  obtain ⟨dC, dI, cI, cA, hK⟩ := x_K hts
  obtain ⟨t309, z309, r309⟩ := xs_309 (A := xA s.heap.size) hts hgv hA
  obtain ⟨t310, z310, r310⟩ := xs_310 (A := xA s.heap.size) hts hgv hA
  obtain ⟨t311, z311, r311⟩ := xs_311 (A := xA s.heap.size) hts hgv hA
  obtain ⟨t312, z312, r312⟩ := xs_312 (A := xA s.heap.size) hts hgv hA
  obtain ⟨adK, adV, hS, ev⟩ := xt_S (A := xA s.heap.size) hgv hA
  have hR := xt_R hts hgv ev
  have hC : va_Z "java/lang/String" "COMPACT_STRINGS" "Z" (.int 1) (xA s.heap.size) s s.heap := va_Zof (hts _ (List.mem_append_right _ (List.mem_append_left _ (List.mem_of_getElem? (i := 66) rfl)))) (hts _ (List.mem_append_right _ (List.mem_append_left _ (List.mem_of_getElem? (i := 4) rfl)))) (va_eqt (xq hgv (n := 4) rfl)) hA
  refine ⟨dC, dI, cI, cA, xot t309 t310 t311 t312 b adK adV, hK _, ?_, ?_, rfl⟩
  all_goals generalize hG : xG dC dI cI cA s.heap.size (xot t309 t310 t311 t312 b adK adV) = G
  all_goals (
    have eK : (fun i => zad G (314 + 2 * i)) = adK := funext fun i => by rw [← hG, xG_hi (by omega), xot_K]
    have eV : (fun i => zad G (315 + 2 * i)) = adV := funext fun i => by rw [← hG, xG_hi (by omega), xot_V])
  · refine ⟨hC, by rw [eK, eV]; exact hS, fun q hq => ?_, x_nw1 hts, (hts _ (List.mem_append_right _ (List.mem_append_left _ (List.mem_of_getElem? (i := 31) rfl)))), va_AO.of (hts _ (List.mem_append_right _ (List.mem_append_left _ (List.mem_of_getElem? (i := 197) rfl))))⟩
    have := hR q hq
    rw [← congrFun eK q.2.2.2] at this
    exact this
  · have e9 : zad G 309 = t309 := by rw [← hG, xG_hi (by decide)]; rfl
    have e10 : zad G 310 = t310 := by rw [← hG, xG_hi (by decide)]; rfl
    have e11 : zad G 311 = t311 := by rw [← hG, xG_hi (by decide)]; rfl
    have e12 : zad G 312 = t312 := by rw [← hG, xG_hi (by decide)]; rfl
    have e13 : zad G 313 = b := by rw [← hG, xG_hi (by decide)]; rfl
    have hsub : ∀ q, zA G q → xA s.heap.size q := by
      rintro q ⟨k, hk, rfl⟩
      rw [← hG, xG_lo hk]
      exact Nat.le_add_right _ _
    refine ⟨?_, ?_, hC.narrow hsub, by rw [eK, eV]; exact hS.narrow hsub, fun q hq => ?_, ⟨by rw [e13]; exact hX, by rw [e13]; exact hbl, by rw [e13]; exact fun h => hA b hbl (hsub b h)⟩, x_nw2 hts, x_nw3 hts⟩
    · refine List.forall_mem_cons.mpr ⟨?_, List.forall_mem_cons.mpr ⟨?_, List.forall_mem_cons.mpr ⟨?_, List.forall_mem_cons.mpr ⟨?_, fun _ h => absurd h List.not_mem_nil⟩⟩⟩⟩
      · show va_Z "LoudMarket" "KIND_ABOVE" "[I" (.ref (zad G 309)) (zA G) s s.heap
        rw [e9]; exact z309.narrow hsub
      · show va_Z "LoudMarket" "MOST_SET" "[I" (.ref (zad G 310)) (zA G) s s.heap
        rw [e10]; exact z310.narrow hsub
      · show va_Z "LoudMarket" "MOST_LAW" "[I" (.ref (zad G 311)) (zA G) s s.heap
        rw [e11]; exact z311.narrow hsub
      · show va_Z "LoudMarket$Speaker" "BODIES" "[I" (.ref (zad G 312)) (zA G) s s.heap
        rw [e12]; exact z312.narrow hsub
    · intro k a1 a2
      obtain rfl | rfl | rfl | rfl : k = 309 ∨ k = 310 ∨ k = 311 ∨ k = 312 := by omega
      · rw [e9]; exact r309.narrow hsub
      · rw [e10]; exact r310.narrow hsub
      · rw [e11]; exact r311.narrow hsub
      · rw [e12]; exact r312.narrow hsub
    · have := hR q hq
      rw [← congrFun eK q.2.2.2] at this
      exact this
