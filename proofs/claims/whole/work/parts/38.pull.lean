/-! ===== the market, pulled by the shouts ===== -/
def zsm (f g : Nat → Int32) : Int32 → Nat → Nat → Int32
  | a, _, 0 => a
  | a, j, n + 1 => zsm f g (a + f j * g j) (j + 1) n
def zex (s : Nat → Int32) (j : Nat) : Int32 := zsgn (s (90 + 8 * j + 2) % nI 10 - s 1 % nI 10)
def zey (s : Nat → Int32) (j : Nat) : Int32 := zsgn (s (90 + 8 * j + 2) / nI 10 - s 1 / nI 10)
def zsE (s : Nat → Int32) : Int32 := zsm (zex s) (zshout s) (nI 0) 0 (zn s 0)
def zsS (s : Nat → Int32) : Int32 := zsm (zey s) (zshout s) (nI 0) 0 (zn s 0)
/-- the step that the shouts ask for -/
def zpst (s : Nat → Int32) : Int32 := if zabs (zsE s) < zabs (zsS s) then nI 10 * zsgn (zsS s) else zsgn (zsE s)
def zpulled (s : Nat → Int32) : Int32 := if zpst s = nI 0 then s 1 else if s (10 + (s 1 + zpst s).toNatClampNeg) = nI 1 then s 1 else s 1 + zpst s
theorem zsm_congr {f g f' g' : Nat → Int32} : ∀ (n j : Nat) (a : Int32), (∀ i, j ≤ i → i < j + n → f i = f' i ∧ g i = g' i) → zsm f g a j n = zsm f' g' a j n
  | 0, _, _, _ => rfl
  | n + 1, j, a, e => by
    show zsm f g (a + f j * g j) (j + 1) n = zsm f' g' (a + f' j * g' j) (j + 1) n
    rw [(e j (Nat.le_refl _) (by omega)).1, (e j (Nat.le_refl _) (by omega)).2]
    exact zsm_congr n (j + 1) _ fun i h1 h2 => e i (by omega) (by omega)
theorem nI_mul01 {b : Int32} {n : Nat} (hb : b = nI 0 ∨ b = nI 1) (hn : n < 100) : ∃ m, m < 100 ∧ b * nI n = nI m := by
  rcases hb with rfl | rfl
  · exact ⟨0, by decide, by rw [show nI 0 = (0 : Int32) from rfl, Int32.zero_mul]⟩
  · exact ⟨n, hn, by rw [show nI 1 = (1 : Int32) from rfl, Int32.one_mul]⟩
theorem nI_mulm {b : Int32} {n : Nat} (hb : b = nI 0 ∨ b = -1) (hn : n < 100) : ∃ m, m < 100 ∧ b * nI n = -nI m := by
  rcases hb with rfl | rfl
  · exact ⟨0, by decide, by rw [show nI 0 = (0 : Int32) from rfl, Int32.zero_mul, Int32.neg_zero]⟩
  · exact ⟨n, hn, by rw [Int32.neg_mul, Int32.one_mul]⟩
theorem zsm_up {f g : Nat → Int32} (hg : ∀ i, ∃ n, n < 100 ∧ g i = nI n) : ∀ (n j m : Nat), (∀ i, j ≤ i → i < j + n → f i = nI 0 ∨ f i = nI 1) → ∃ m', m' ≤ m + 99 * n ∧ zsm f g (nI m) j n = nI m'
  | 0, _, m, _ => ⟨m, by omega, rfl⟩
  | n + 1, j, m, e => by
    obtain ⟨x, hx, ex⟩ := hg j
    obtain ⟨y, hy, ey⟩ := nI_mul01 (e j (Nat.le_refl _) (by omega)) hx
    obtain ⟨m', h1, h2⟩ := zsm_up hg n (j + 1) (m + y) fun i h1 h2 => e i (by omega) (by omega)
    refine ⟨m', by omega, ?_⟩
    show zsm f g (nI m + f j * g j) (j + 1) n = _
    rw [ex, ey, nI_add, h2]
theorem zsm_dn {f g : Nat → Int32} (hg : ∀ i, ∃ n, n < 100 ∧ g i = nI n) : ∀ (n j m : Nat), (∀ i, j ≤ i → i < j + n → f i = nI 0 ∨ f i = -1) → ∃ m', m' ≤ m + 99 * n ∧ zsm f g (-nI m) j n = -nI m'
  | 0, _, m, _ => ⟨m, by omega, rfl⟩
  | n + 1, j, m, e => by
    obtain ⟨x, hx, ex⟩ := hg j
    obtain ⟨y, hy, ey⟩ := nI_mulm (e j (Nat.le_refl _) (by omega)) hx
    obtain ⟨m', h1, h2⟩ := zsm_dn hg n (j + 1) (m + y) fun i h1 h2 => e i (by omega) (by omega)
    refine ⟨m', by omega, ?_⟩
    show zsm f g (-nI m + f j * g j) (j + 1) n = _
    rw [ex, ey, show -nI m + -nI y = -nI (m + y) by rw [← nI_add, Int32.neg_add, Int32.sub_eq_add_neg], h2]
theorem zsg_up : ∀ m, m < 800 → zsgn (nI m) = nI 0 ∨ zsgn (nI m) = nI 1 := by decide +kernel
theorem zsg_dn : ∀ m, m < 800 → zsgn (-nI m) = nI 0 ∨ zsgn (-nI m) = -1 := by decide +kernel
theorem zsg_3 (x : Int32) : zsgn x = nI 0 ∨ zsgn x = nI 1 ∨ zsgn x = -1 := by
  unfold zsgn
  split
  · split
    · exact Or.inl rfl
    · exact Or.inr (Or.inr rfl)
  · exact Or.inr (Or.inl rfl)
theorem zex_c : ∀ f, f < 80 → ∀ t, t < 80 → zstep (nI f) (nI t) (nI 1) = zsgn (nI t % nI 10 - nI f % nI 10) ∧ zstep (nI f) (nI t) (nI 10) / nI 10 = zsgn (nI t / nI 10 - nI f / nI 10) := by decide +kernel
theorem zex_l1 : ∀ f, f < 80 → ∀ t, t < 80 → f % 10 ≠ 0 ∨ zsgn (nI t % nI 10 - nI f % nI 10) = nI 0 ∨ zsgn (nI t % nI 10 - nI f % nI 10) = nI 1 := by decide +kernel
theorem zex_l2 : ∀ f, f < 80 → ∀ t, t < 80 → f % 10 ≠ 9 ∨ zsgn (nI t % nI 10 - nI f % nI 10) = nI 0 ∨ zsgn (nI t % nI 10 - nI f % nI 10) = -1 := by decide +kernel
theorem zex_l3 : ∀ f, f < 80 → ∀ t, t < 80 → ¬ f < 10 ∨ zsgn (nI t / nI 10 - nI f / nI 10) = nI 0 ∨ zsgn (nI t / nI 10 - nI f / nI 10) = nI 1 := by decide +kernel
theorem zex_l4 : ∀ f, f < 80 → ∀ t, t < 80 → ¬ 70 ≤ f ∨ zsgn (nI t / nI 10 - nI f / nI 10) = nI 0 ∨ zsgn (nI t / nI 10 - nI f / nI 10) = -1 := by decide +kernel
theorem zst_r1 : ∀ f, f < 80 → f % 10 ≠ 9 → nI f + nI 1 = nI (f + 1) := fun _ _ _ => nI_add ..
theorem zst_r2 : ∀ f, f < 80 → f % 10 ≠ 0 → nI f + (-1) = nI (f - 1) := by decide +kernel
theorem zst_c2 : ∀ f, f < 80 → 10 ≤ f → nI f + nI 10 * (-1) = nI (f - 10) := by decide +kernel
theorem zpst_c {s : Nat → Int32} {N mk : Nat} (hN : s 0 = nI N) (hN8 : N ≤ 8) (hm : s 1 = nI mk) (hmk : mk < 80) (hP : ∀ k, k < 8 → zP s k) : ∃ c, c < 80 ∧ nI mk + zpst s = nI c := by
  have hh : ∀ j, j < 8 → ∃ t, t < 80 ∧ s (90 + 8 * j + 2) = nI t := fun j hj => by
    obtain ⟨kd, m, hm, v, ho, g, hu, l0, l1, l2, l3, l4, l5, l7, p0, p1, p2, p3, p4, p5, p7⟩ := hP j hj
    exact ⟨hm, l2, p2⟩
  have zN : zn s 0 = N := zn_of hN (by omega)
  have ez : ∀ x : Int32, x + nI 0 = x := fun x => Int32.add_zero x
  have em : -nI 0 = nI 0 := rfl
  unfold zpst
  split
  · by_cases a : mk < 10
    · obtain ⟨m', h1, h2⟩ := zsm_up (f := zey s) (g := zshout s) (zshout_n s) N 0 0 fun i _ hi => by
        obtain ⟨t, ht, e⟩ := hh i (by omega)
        unfold zey
        rw [e, hm]
        exact (zex_l3 mk hmk t ht).resolve_left (fun z => z a)
      have e : zsS s = nI m' := by unfold zsS; rw [zN, h2]
      rw [e]
      rcases zsg_up m' (by omega) with q | q <;> rw [q]
      · exact ⟨mk, hmk, ez _⟩
      · exact ⟨mk + 10, by omega, nI_add ..⟩
    · by_cases b : 70 ≤ mk
      · obtain ⟨m', h1, h2⟩ := zsm_dn (f := zey s) (g := zshout s) (zshout_n s) N 0 0 fun i _ hi => by
          obtain ⟨t, ht, e⟩ := hh i (by omega)
          unfold zey
          rw [e, hm]
          exact (zex_l4 mk hmk t ht).resolve_left (fun z => z b)
        have e : zsS s = -nI m' := by unfold zsS; rw [zN, ← h2]; rfl
        rw [e]
        rcases zsg_dn m' (by omega) with q | q <;> rw [q]
        · exact ⟨mk, hmk, ez _⟩
        · exact ⟨mk - 10, by omega, zst_c2 mk hmk (by omega)⟩
      · rcases zsg_3 (zsS s) with q | q | q <;> rw [q]
        · exact ⟨mk, hmk, ez _⟩
        · exact ⟨mk + 10, by omega, nI_add ..⟩
        · exact ⟨mk - 10, by omega, zst_c2 mk hmk (by omega)⟩
  · by_cases a : mk % 10 = 0
    · obtain ⟨m', h1, h2⟩ := zsm_up (f := zex s) (g := zshout s) (zshout_n s) N 0 0 fun i _ hi => by
        obtain ⟨t, ht, e⟩ := hh i (by omega)
        unfold zex
        rw [e, hm]
        exact (zex_l1 mk hmk t ht).resolve_left (fun z => z a)
      have e : zsE s = nI m' := by unfold zsE; rw [zN, h2]
      rw [e]
      rcases zsg_up m' (by omega) with q | q <;> rw [q]
      · exact ⟨mk, hmk, ez _⟩
      · exact ⟨mk + 1, by omega, nI_add ..⟩
    · by_cases b : mk % 10 = 9
      · obtain ⟨m', h1, h2⟩ := zsm_dn (f := zex s) (g := zshout s) (zshout_n s) N 0 0 fun i _ hi => by
          obtain ⟨t, ht, e⟩ := hh i (by omega)
          unfold zex
          rw [e, hm]
          exact (zex_l2 mk hmk t ht).resolve_left (fun z => z b)
        have e : zsE s = -nI m' := by unfold zsE; rw [zN, ← h2]; rfl
        rw [e]
        rcases zsg_dn m' (by omega) with q | q <;> rw [q]
        · exact ⟨mk, hmk, ez _⟩
        · exact ⟨mk - 1, by omega, zst_r2 mk hmk a⟩
      · rcases zsg_3 (zsE s) with q | q | q <;> rw [q]
        · exact ⟨mk, hmk, ez _⟩
        · exact ⟨mk + 1, by omega, nI_add ..⟩
        · exact ⟨mk - 1, by omega, zst_r2 mk hmk a⟩
