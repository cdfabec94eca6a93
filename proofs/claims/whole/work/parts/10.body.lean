/-! ===== bodies and methods ===== -/
theorem z_body {G : zG} {L : Nat} {xs : Nat → Int32} {own : String} {cc : ByteArray} {nL : Nat} {ret : Option FieldType} {T : Nat → zO} {cf : Nat → List Value → zH → Option zU} {p : Program} {l : Launch} {e : Env} {R : Room} {s : State} {m : MethodId} {args : Array Value} {below : List Frame} {meth : Method} {c : Code} {cells slots : Nat} {Q : State → Prop} {d : Nat} (hT : ∀ pc, zSnd G L xs own cc nL ret pc (T pc)) (hcf : ∀ k as h r h2, cf k as h = some (r, h2) → zMet G L xs l d k as h r h2) (C : zCtx G L xs own cc nL ret p s m args meth c) (X : zRm d R cells slots) {r : Option Value} {h' : zH} (hR : zRO G L xs cc ret p l e R s m args below meth c cells slots Q r h') :
    ∀ n pc lo st h, zX1 T cf n pc lo st h = some (r, h') → zGW G L xs nL p l e R s m args below meth c cells slots Q pc lo st h := by
  intro n
  induction n with
  | zero => intro pc lo st h e0; simp [zX1] at e0
  | succ n ih =>
    intro pc lo st h e0
    simp only [zX1] at e0
    cases ht : T pc lo st h with
    | none => rw [ht] at e0; cases e0
    | some q =>
      rw [ht] at e0
      refine hT pc p l e R s m args below meth c cells slots Q d C X lo st h q ht ?_
      rcases q with ⟨pc', lo', st', h9⟩ | o' | ⟨k2, as, pc', lo', st', h9⟩
      · exact ih _ _ _ _ e0
      · obtain rfl := Option.some.inj e0
        exact hR
      · dsimp only at e0
        cases hk : cf k2 as h9 with
        | none => rw [hk] at e0; cases e0
        | some o2 =>
          rw [hk] at e0
          obtain ⟨r2, h2⟩ := o2
          exact ⟨r2, h2, hcf _ _ _ _ _ hk, ih _ _ _ _ e0⟩
theorem zlk_snd {G : zG} {L : Nat} {xs : Nat → Int32} {own : String} {cc : ByteArray} {nL : Nat} {ret : Option FieldType} : ∀ {l : List (Nat × zO)}, (∀ q ∈ l, zSnd G L xs own cc nL ret q.1 q.2) → ∀ pc, zSnd G L xs own cc nL ret pc (zlk l pc)
  | [], _, pc => s_no
  | q :: r, hl, pc => by
    unfold zlk
    by_cases e : pc = q.1
    · rw [if_pos e, e]
      exact hl q List.mem_cons_self
    · rw [if_neg e]
      exact zlk_snd (fun z hz => hl z (List.mem_cons_of_mem _ hz)) pc
theorem zflat_args {G : zG} : ∀ (as : List Value) (off i : Nat) (v : Value), (zflat as)[i]? = some v → v ≠ Value.null → (off + i, zt G v) ∈ lv_args off (as.map (zt G))
  | [], off, i, v, h, _ => by simp [zflat] at h
  | a :: as, off, i, v, h, hv => by
    have hc := zt_cat G a
    simp only [List.map_cons, lv_args]
    by_cases e : a.category = 2
    · have h : (a :: Value.null :: zflat as)[i]? = some v := by simpa [zflat, e] using h
      match i, h with
      | 0, h =>
        simp only [List.getElem?_cons_zero, Option.some.injEq] at h
        subst h
        exact List.mem_cons_self
      | 1, h =>
        simp only [List.getElem?_cons_succ, List.getElem?_cons_zero, Option.some.injEq] at h
        exact absurd h.symm hv
      | i + 2, h =>
        have h := zflat_args (G := G) as (off + 2) i v (by simpa using h) hv
        refine List.mem_cons_of_mem _ ?_
        have e2 : off + (i + 2) = off + 2 + i := by omega
        rw [e2, hc, e]
        exact h
    · have e1 : a.category = 1 := by rcases lv_cat a with z | z; exact z; exact absurd z e
      have h : (a :: zflat as)[i]? = some v := by simpa [zflat, e] using h
      match i, h with
      | 0, h =>
        simp only [List.getElem?_cons_zero, Option.some.injEq] at h
        subst h
        exact List.mem_cons_self
      | i + 1, h =>
        have h := zflat_args (G := G) as (off + 1) i v (by simpa using h) hv
        refine List.mem_cons_of_mem _ ?_
        have e2 : off + (i + 1) = off + 1 + i := by omega
        rw [e2, hc, e1]
        exact h
theorem zflat_len {G : zG} : ∀ (as : List Value), (lg_sl (as.map (zt G))).length = (zflat as).length
  | [] => rfl
  | a :: as => by
    have ih := zflat_len (G := G) as
    have hc := zt_cat G a
    unfold lg_sl zflat at ih ⊢
    simp only [List.map_cons, List.flatMap_cons, List.length_append, hc]
    rw [ih]
    split <;> rfl
theorem zent_args {G : zG} {as : List Value} {n : Nat} : ∀ q ∈ zls G (zent n as), q ∈ lv_args 0 (as.map (zt G)) := by
  intro q hq
  obtain ⟨v, h1, h2, h3⟩ := zls_mem.mp hq
  unfold zent at h1
  by_cases e : q.1 < (zflat as).length
  · rw [List.getElem?_append_left e] at h1
    have := zflat_args (G := G) as 0 q.1 v h1 h2
    rw [Nat.zero_add, ← h3] at this
    exact this
  · rw [List.getElem?_append_right (by omega), List.getElem?_replicate] at h1
    split at h1
    · exact absurd (Option.some.inj h1).symm h2
    · cases h1
theorem z_met {G : zG} {L : Nat} {xs : Nat → Int32} {zT : Nat → Nat → zO} {nM : Nat} (HT : ∀ k, k < nM → ∀ pc, zSnd G L xs (zy k).cls (zcode k) (znl k) (zret k) pc (zT k pc)) (HN : ∀ k, nM ≤ k → ∀ pc lo st h, zT k pc lo st h = none) (HP : ∀ k, k < nM → plainFor (zy k) = true) (l : Launch) :
    ∀ d n k as h r h', zXD zT znl d n k as h = some (r, h') → zMet G L xs l d k as h r h' := by
  intro d
  induction d with
  | zero => intro n k as h r h' e; simp [zXD] at e
  | succ d ih =>
    intro n k as h r h' e
    simp only [zXD] at e
    split at e
    · rename_i hq
      rcases Nat.lt_or_ge k nM with hk | hk
      · refine va_MetF (cc := zcode k) (maxL := znl k) (ret := zret k) (HP k hk) rfl ?_
        intro p e9 s m args below meth c s₁ B hml hv
        obtain ⟨rfl, hP, hK, hO, hJ, hX⟩ := hv
        have hts : ∀ w ∈ zgt, w.before (as.map (zt G)).toArray s = true := fun w hw => atoms_spec (ws := zwk k) B.pre w (List.mem_cons_of_mem _ hw)
        have hown : s.vm.findClass (zy k).cls = some m.cls := findClass_of_methodNamed B.named
        have hlk := B.notSynchronized
        have C : zCtx G L xs (zy k).cls (zcode k) (znl k) (zret k) p s m (as.map (zt G)).toArray meth c := ⟨B.exec, B.bytes, hml, hown, hts, hK, hO, hJ, B.returns, hlk⟩
        have X : zRm d (headSpec (zwk k) (zrm (d + 1))).room 0 0 := ⟨Nat.le_refl _, Nat.le_refl _, Nat.le_refl _, Nat.le_refl _⟩
        have hl := lv_entry (as.map (zt G)) (n := znl k) (by rw [zflat_len]; exact hq)
        rw [lg_entry_eq]
        refine z_body (HT k hk) (fun k as h r h2 e => ih n k as h r h2 e) C X ?_ n 0 (zent (znl k) as) [] h e _ _ _ (lv_mono hl zent_args) ?_ hP va_S.rf hX
        · intro ls H locs pc st hz hP hS hX
          rcases hz with ⟨hdg, hrt, rfl, rfl⟩ | ⟨x, ty, hdg, hrt, hnr, rfl, rfl⟩ | ⟨k9, ty, hdg, hrt, hty, rfl, rfl⟩
          · exact W.vret B.exec B.bytes (B.returns.trans hrt) (fun t ht hW => ⟨rfl, by rw [ht]; exact hP, hX, hS.F ht⟩) hS.2.2 hdg
          · exact W.zret B.exec B.bytes (B.returns.trans hrt) hnr (fun t ht hW => ⟨rfl, by rw [ht]; exact hP, hX, hS.F ht⟩) hS.2.2 hdg
          · exact W.aret B.exec B.bytes (B.returns.trans hrt) hty (Or.inr ⟨_, rfl⟩) (fun t ht hW => ⟨rfl, by rw [ht]; exact hP, hX, hS.F ht⟩) hS.2.2 hdg
        · unfold zent
          rw [List.length_append, List.length_replicate]
          omega
      · cases n with
        | zero => simp [zX1] at e
        | succ n => simp only [zX1, HN k hk] at e; cases e
    · cases e
