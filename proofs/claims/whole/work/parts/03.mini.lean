/-! ===== the small machine: the methods' code over numbered objects whose references stand still; memory is numbers ===== -/
abbrev zH : Type := Nat → Nat → Int32
abbrev zL : Type := List Value
abbrev zC : Type := Nat × zL × List Value × zH
abbrev zU : Type := Option Value × zH
abbrev zR : Type := Option (zC ⊕ (zU ⊕ (Nat × List Value × zC)))
abbrev zO : Type := zL → List Value → zH → zR
/-- an object's shape: kind (0 int row, 1 object, 2 row of references, 3 fixed int row, 4 fixed byte row, 5 text, 6 script), length or class, slots, contents -/
abbrev zS : Type := Nat × Nat × List (Nat × Nat) × List Int32
def zgo (pc : Nat) (lo : zL) (st : List Value) (h : zH) : zR := some (.inl (pc, lo, st, h))
def zend (r : Option Value) (h : zH) : zR := some (.inr (.inl (r, h)))
def zask (k : Nat) (as : List Value) (pc : Nat) (lo : zL) (st : List Value) (h : zH) : zR := some (.inr (.inr (k, as, pc, lo, st, h)))
def zup (h : zH) (a j : Nat) (x : Int32) : zH := fun b i => if b = a ∧ i = j then x else h b i
theorem zup_row_ne {h : zH} {a b j : Nat} {x : Int32} (e : b ≠ a) : zup h a j x b = h b := by
  funext i
  simp [zup, e]
theorem zup_row {h : zH} {a j : Nat} {x : Int32} : zup h a j x a = upd (h a) j x := by
  funext i
  by_cases e : i = j
  · subst e; simp [zup, upd]
  · simp [zup, upd, e]
def zcp (h : zH) (a0 s0 a1 s1 n : Nat) : zH := fun b i => if b = a1 then va_cpy (h a0) (h a1) s0 s1 n i else h b i
/-- run in one method: T its code, cf the calls -/
def zX1 (T : Nat → zO) (cf : Nat → List Value → zH → Option zU) : Nat → Nat → zL → List Value → zH → Option zU
  | 0, _, _, _, _ => none
  | n + 1, pc, lo, st, h => match T pc lo st h with
    | none => none
    | some (.inl (pc', lo', st', h')) => zX1 T cf n pc' lo' st' h'
    | some (.inr (.inl o)) => some o
    | some (.inr (.inr (k2, as, pc', lo', st', h'))) => match cf k2 as h' with
      | none => none
      | some (r, h2) => zX1 T cf n pc' lo' (r.toList ++ st') h2
/-- the locals at a method's entry -/
def zflat (as : List Value) : zL := as.flatMap fun v => if v.category = 2 then [v, Value.null] else [v]
def zent (n : Nat) (as : List Value) : zL := zflat as ++ List.replicate (n - (zflat as).length) Value.null
def zXD (TT : Nat → Nat → zO) (nl : Nat → Nat) : Nat → Nat → Nat → List Value → zH → Option zU
  | 0, _, _, _, _ => none
  | d + 1, n, k, as, h => if (zflat as).length ≤ nl k then zX1 (TT k) (zXD TT nl d n) n 0 (zent (nl k) as) [] h else none
theorem zX1_mono {T : Nat → zO} {cf cf' : Nat → List Value → zH → Option zU} (hc : ∀ k as h o, cf k as h = some o → cf' k as h = some o) : ∀ (n n' : Nat), n ≤ n' → ∀ pc lo st h o, zX1 T cf n pc lo st h = some o → zX1 T cf' n' pc lo st h = some o := by
  intro n
  induction n with
  | zero => intro n' _ pc lo st h o e; simp [zX1] at e
  | succ n ih =>
    intro n' hn pc lo st h o e
    obtain ⟨q, rfl⟩ : ∃ q, n' = q + 1 := ⟨n' - 1, by omega⟩
    simp only [zX1] at e ⊢
    cases ht : T pc lo st h with
    | none => rw [ht] at e; cases e
    | some r =>
      rw [ht] at e
      rcases r with ⟨pc', lo', st', h'⟩ | o' | ⟨k2, as, pc', lo', st', h'⟩
      · exact ih q (by omega) _ _ _ _ _ e
      · exact e
      · dsimp only at e ⊢
        cases hk : cf k2 as h' with
        | none => rw [hk] at e; cases e
        | some o2 =>
          rw [hk] at e
          rw [hc _ _ _ _ hk]
          exact ih q (by omega) _ _ _ _ _ e
theorem zXD_mono {TT : Nat → Nat → zO} {nl : Nat → Nat} : ∀ (d n n' : Nat), n ≤ n' → ∀ k as h o, zXD TT nl d n k as h = some o → zXD TT nl d n' k as h = some o := by
  intro d
  induction d with
  | zero => intro n n' _ k as h o e; simp [zXD] at e
  | succ d ih =>
    intro n n' hn k as h o e
    simp only [zXD] at e ⊢
    split at e
    · rename_i hq
      rw [if_pos hq]
      exact zX1_mono (fun k as h o e => ih n n' hn k as h o e) n n' hn _ _ _ _ _ e
    · cases e
theorem zXD_deep {TT : Nat → Nat → zO} {nl : Nat → Nat} : ∀ (d n : Nat) k as h o, zXD TT nl d n k as h = some o → zXD TT nl (d + 1) n k as h = some o := by
  intro d
  induction d with
  | zero => intro n k as h o e; simp [zXD] at e
  | succ d ih =>
    intro n k as h o e
    have e : (if (zflat as).length ≤ nl k then zX1 (TT k) (zXD TT nl d n) n 0 (zent (nl k) as) [] h else none) = some o := e
    show (if (zflat as).length ≤ nl k then zX1 (TT k) (zXD TT nl (d + 1) n) n 0 (zent (nl k) as) [] h else none) = some o
    split at e
    · rename_i hq
      rw [if_pos hq]
      exact zX1_mono (fun k as h o e => ih n k as h o e) n n (Nat.le_refl _) _ _ _ _ _ e
    · cases e
/-- a call's outcome, however long it takes; calls at most d deep -/
noncomputable def zCf (TT : Nat → Nat → zO) (nl : Nat → Nat) (d k : Nat) (as : List Value) (h : zH) : Option zU :=
  @dite _ (∃ o n, zXD TT nl d n k as h = some o) (Classical.propDecidable _) (fun q => some q.choose) (fun _ => none)
/-- a body's outcome from a place on -/
noncomputable def zXf (TT : Nat → Nat → zO) (nl : Nat → Nat) (d k pc : Nat) (lo : zL) (st : List Value) (h : zH) : Option zU :=
  @dite _ (∃ o n, zX1 (TT k) (zXD TT nl d n) n pc lo st h = some o) (Classical.propDecidable _) (fun q => some q.choose) (fun _ => none)
theorem zCf_iff {TT : Nat → Nat → zO} {nl : Nat → Nat} {d k : Nat} {as : List Value} {h : zH} {o : zU} : zCf TT nl d k as h = some o ↔ ∃ n, zXD TT nl d n k as h = some o := by
  unfold zCf
  by_cases q : ∃ o n, zXD TT nl d n k as h = some o
  · rw [dif_pos q]
    obtain ⟨n1, e1⟩ := q.choose_spec
    constructor
    · intro e
      exact ⟨n1, by rw [e1]; exact e⟩
    · rintro ⟨n2, e2⟩
      have a := zXD_mono d n1 (n1 + n2) (by omega) k as h _ e1
      have b := zXD_mono d n2 (n1 + n2) (by omega) k as h _ e2
      exact a.symm.trans b
  · rw [dif_neg q]
    constructor
    · intro e; cases e
    · rintro ⟨n, e⟩
      exact absurd ⟨o, n, e⟩ q
theorem zX1_up {TT : Nat → Nat → zO} {nl : Nat → Nat} {d k n n' : Nat} (hn : n ≤ n') {pc : Nat} {lo : zL} {st : List Value} {h : zH} {o : zU} (e : zX1 (TT k) (zXD TT nl d n) n pc lo st h = some o) : zX1 (TT k) (zXD TT nl d n') n' pc lo st h = some o :=
  zX1_mono (fun k as h o e => zXD_mono d n n' hn k as h o e) n n' hn _ _ _ _ _ e
theorem zXf_iff {TT : Nat → Nat → zO} {nl : Nat → Nat} {d k pc : Nat} {lo : zL} {st : List Value} {h : zH} {o : zU} : zXf TT nl d k pc lo st h = some o ↔ ∃ n, zX1 (TT k) (zXD TT nl d n) n pc lo st h = some o := by
  unfold zXf
  by_cases q : ∃ o n, zX1 (TT k) (zXD TT nl d n) n pc lo st h = some o
  · rw [dif_pos q]
    obtain ⟨n1, e1⟩ := q.choose_spec
    constructor
    · intro e
      exact ⟨n1, by rw [e1]; exact e⟩
    · rintro ⟨n2, e2⟩
      have a := zX1_up (n' := n1 + n2) (by omega) e1
      have b := zX1_up (n' := n1 + n2) (by omega) e2
      exact a.symm.trans b
  · rw [dif_neg q]
    constructor
    · intro e; cases e
    · rintro ⟨n, e⟩
      exact absurd ⟨o, n, e⟩ q
theorem zCf_0 {TT : Nat → Nat → zO} {nl : Nat → Nat} {k : Nat} {as : List Value} {h : zH} : zCf TT nl 0 k as h = none := by
  cases e : zCf TT nl 0 k as h with
  | none => rfl
  | some o =>
    obtain ⟨n, e⟩ := zCf_iff.mp e
    simp [zXD] at e
theorem zCf_body {TT : Nat → Nat → zO} {nl : Nat → Nat} {d k : Nat} {as : List Value} {h : zH} (hq : (zflat as).length ≤ nl k) : zCf TT nl (d + 1) k as h = zXf TT nl d k 0 (zent (nl k) as) [] h := by
  apply Option.ext
  intro o
  rw [zCf_iff, zXf_iff]
  simp only [zXD, if_pos hq]
/-- what comes of one instruction's outcome -/
noncomputable def zB (TT : Nat → Nat → zO) (nl : Nat → Nat) (d k : Nat) (r : zR) : Option zU := match r with
  | none => none
  | some (.inl (pc', lo', st', h')) => zXf TT nl d k pc' lo' st' h'
  | some (.inr (.inl o)) => some o
  | some (.inr (.inr (k2, as, pc', lo', st', h'))) => (zCf TT nl d k2 as h').bind fun o => zXf TT nl d k pc' lo' (o.1.toList ++ st') o.2
theorem zX_step (TT : Nat → Nat → zO) (nl : Nat → Nat) (d k pc : Nat) (lo : zL) (st : List Value) (h : zH) : zXf TT nl d k pc lo st h = zB TT nl d k (TT k pc lo st h) := by
  apply Option.ext
  intro o
  rw [zXf_iff]
  cases ht : TT k pc lo st h with
  | none =>
    constructor
    · rintro ⟨n, e⟩
      cases n with
      | zero => simp [zX1] at e
      | succ n => simp [zX1, ht] at e
    · intro e; cases e
  | some r =>
    rcases r with ⟨pc', lo', st', h'⟩ | o' | ⟨k2, as, pc', lo', st', h'⟩
    · show _ ↔ zXf TT nl d k pc' lo' st' h' = some o
      rw [zXf_iff]
      constructor
      · rintro ⟨n, e⟩
        cases n with
        | zero => simp [zX1] at e
        | succ n =>
          simp only [zX1, ht] at e
          exact ⟨n + 1, zX1_mono (fun k as h o e => e) n (n + 1) (by omega) _ _ _ _ _ e⟩
      · rintro ⟨n, e⟩
        refine ⟨n + 1, ?_⟩
        simp only [zX1, ht]
        exact zX1_mono (fun k as h o e => zXD_mono d n (n + 1) (by omega) k as h o e) n n (Nat.le_refl _) _ _ _ _ _ e
    · show _ ↔ some o' = some o
      constructor
      · rintro ⟨n, e⟩
        cases n with
        | zero => simp [zX1] at e
        | succ n => simpa only [zX1, ht] using e
      · intro e
        exact ⟨1, by simpa only [zX1, ht] using e⟩
    · show _ ↔ ((zCf TT nl d k2 as h').bind fun o => zXf TT nl d k pc' lo' (o.1.toList ++ st') o.2) = some o
      rw [Option.bind_eq_some_iff]
      constructor
      · rintro ⟨n, e⟩
        cases n with
        | zero => simp [zX1] at e
        | succ n =>
          simp only [zX1, ht] at e
          cases hk : zXD TT nl d (n + 1) k2 as h' with
          | none => rw [hk] at e; cases e
          | some o2 =>
            rw [hk] at e
            exact ⟨o2, zCf_iff.mpr ⟨n + 1, hk⟩, zXf_iff.mpr ⟨n + 1, zX1_mono (fun k as h o e => e) n (n + 1) (by omega) _ _ _ _ _ e⟩⟩
      · rintro ⟨o2, e1, e2⟩
        obtain ⟨n1, e1⟩ := zCf_iff.mp e1
        obtain ⟨n2, e2⟩ := zXf_iff.mp e2
        refine ⟨n1 + n2 + 1, ?_⟩
        simp only [zX1, ht]
        rw [zXD_mono d n1 (n1 + n2 + 1) (by omega) _ _ _ _ e1]
        exact zX1_mono (fun k as h o e => zXD_mono d n2 (n1 + n2 + 1) (by omega) k as h o e) n2 (n1 + n2) (by omega) _ _ _ _ _ e2
section ZB
variable {TT : Nat → Nat → zO} {nl : Nat → Nat} {d k : Nat}
theorem zB_go (pc : Nat) (lo : zL) (st : List Value) (h : zH) : zB TT nl d k (zgo pc lo st h) = zXf TT nl d k pc lo st h := rfl
theorem zB_end (r : Option Value) (h : zH) : zB TT nl d k (zend r h) = some (r, h) := rfl
theorem zB_no : zB TT nl d k none = none := rfl
theorem zB_ask (k2 : Nat) (as : List Value) (pc : Nat) (lo : zL) (st : List Value) (h : zH) : zB TT nl d k (zask k2 as pc lo st h) = (zCf TT nl d k2 as h).bind fun o => zXf TT nl d k pc lo (o.1.toList ++ st) o.2 := rfl
theorem zB_if {c : Prop} [Decidable c] (a b : zR) : zB TT nl d k (if c then a else b) = if c then zB TT nl d k a else zB TT nl d k b := by
  split <;> rfl
end ZB
