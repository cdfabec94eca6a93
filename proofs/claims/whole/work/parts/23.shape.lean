/-! ===== instructions on objects of known shape ===== -/
def zW (w : Nat) : Prop := w = 1 ∨ w = 25 ∨ w = 49
def zTx (t : Nat) : Prop := t = 13 ∨ t = 17 ∨ t = 37 ∨ t = 41 ∨ t = 61 ∨ t = 65 ∨ t = 74
def zSt (a : Nat) : Prop := a = 82 ∨ a = 84 ∨ a = 86 ∨ a = 88
theorem zW_1 : zW 1 := Or.inl rfl
theorem zW_25 : zW 25 := Or.inr (Or.inl rfl)
theorem zW_49 : zW 49 := Or.inr (Or.inr rfl)
theorem zTx_W12 {w : Nat} (h : zW w) : zTx (w + 12) := by rcases h with rfl | rfl | rfl <;> simp [zTx]
theorem zTx_W16 {w : Nat} (h : zW w) : zTx (w + 16) := by rcases h with rfl | rfl | rfl <;> simp [zTx]
theorem zTx_74 : zTx 74 := by simp [zTx]
/-- a row of whole numbers -/
def zar (a n : Nat) : Prop := (zsh a).1 = 0 ∧ (zsh a).2.1 = n ∧ a < 309
theorem nI_rng {i n : Nat} (hi : i < n) (hn : n < 2 ^ 31) : 0 ≤ (nI i).toInt ∧ (nI i).toInt < (n : Int) := by
  rw [nI_toInt (by omega)]; omega
theorem ald {a n i nx : Nat} {lo : zL} {st : List Value} {h : zH} (ha : zar a n) (hi : i < n) (hn : n < 2 ^ 31) : oIald nx lo (.int (nI i) :: .ref a :: st) h = zgo nx lo (.int (h a i) :: st) h := by
  obtain ⟨h1, h2, h3⟩ := ha
  have h4 := nI_rng hi hn
  simp only [oIald, h1, h2, h3, and_self, if_true, h4, nI_clamp (show i < 2 ^ 31 by omega)]
theorem ast {a n i nx : Nat} {lo : zL} {st : List Value} {h : zH} {x : Int32} (ha : zar a n) (hi : i < n) (hn : n < 2 ^ 31) : oIast nx lo (.int x :: .int (nI i) :: .ref a :: st) h = zgo nx lo st (zup h a i x) := by
  obtain ⟨h1, h2, h3⟩ := ha
  have h4 := nI_rng hi hn
  simp only [oIast, h1, h2, h3, h4, and_self, if_true, nI_clamp (show i < 2 ^ 31 by omega)]
theorem aln {a n nx : Nat} {lo : zL} {st : List Value} {h : zH} (ha : zar a n) : oAlen nx lo (.ref a :: st) h = zgo nx lo (.int (nI n) :: st) h := by
  obtain ⟨h1, h2, h3⟩ := ha
  simp only [oAlen, h1, h2, h3, and_self, if_true]
  rfl
theorem zar_W1 {w : Nat} (hw : zW w) : zar (w + 1) 80 := by rcases hw with rfl | rfl | rfl <;> exact ⟨rfl, rfl, by decide⟩
theorem ald_W1 {w : Nat} (hw : zW w) {i nx : Nat} {lo : zL} {st : List Value} {h : zH} (hi : i < 80) : oIald nx lo (.int (nI i) :: .ref (w + 1) :: st) h = zgo nx lo (.int (h (w + 1) i) :: st) h := ald (zar_W1 hw) hi (by decide)
theorem ast_W1 {w : Nat} (hw : zW w) {i nx : Nat} {lo : zL} {st : List Value} {h : zH} {x : Int32} (hi : i < 80) : oIast nx lo (.int x :: .int (nI i) :: .ref (w + 1) :: st) h = zgo nx lo st (zup h (w + 1) i x) := ast (zar_W1 hw) hi (by decide)
theorem aln_W1 {w : Nat} (hw : zW w) {nx : Nat} {lo : zL} {st : List Value} {h : zH} : oAlen nx lo (.ref (w + 1) :: st) h = zgo nx lo (.int (nI 80) :: st) h := aln (zar_W1 hw)
theorem zar_W2 {w : Nat} (hw : zW w) : zar (w + 2) 3 := by rcases hw with rfl | rfl | rfl <;> exact ⟨rfl, rfl, by decide⟩
theorem ald_W2 {w : Nat} (hw : zW w) {i nx : Nat} {lo : zL} {st : List Value} {h : zH} (hi : i < 3) : oIald nx lo (.int (nI i) :: .ref (w + 2) :: st) h = zgo nx lo (.int (h (w + 2) i) :: st) h := ald (zar_W2 hw) hi (by decide)
theorem ast_W2 {w : Nat} (hw : zW w) {i nx : Nat} {lo : zL} {st : List Value} {h : zH} {x : Int32} (hi : i < 3) : oIast nx lo (.int x :: .int (nI i) :: .ref (w + 2) :: st) h = zgo nx lo st (zup h (w + 2) i x) := ast (zar_W2 hw) hi (by decide)
theorem aln_W2 {w : Nat} (hw : zW w) {nx : Nat} {lo : zL} {st : List Value} {h : zH} : oAlen nx lo (.ref (w + 2) :: st) h = zgo nx lo (.int (nI 3) :: st) h := aln (zar_W2 hw)
theorem zar_W20 {w : Nat} (hw : zW w) : zar (w + 20) 5 := by rcases hw with rfl | rfl | rfl <;> exact ⟨rfl, rfl, by decide⟩
theorem ald_W20 {w : Nat} (hw : zW w) {i nx : Nat} {lo : zL} {st : List Value} {h : zH} (hi : i < 5) : oIald nx lo (.int (nI i) :: .ref (w + 20) :: st) h = zgo nx lo (.int (h (w + 20) i) :: st) h := ald (zar_W20 hw) hi (by decide)
theorem ast_W20 {w : Nat} (hw : zW w) {i nx : Nat} {lo : zL} {st : List Value} {h : zH} {x : Int32} (hi : i < 5) : oIast nx lo (.int x :: .int (nI i) :: .ref (w + 20) :: st) h = zgo nx lo st (zup h (w + 20) i x) := ast (zar_W20 hw) hi (by decide)
theorem aln_W20 {w : Nat} (hw : zW w) {nx : Nat} {lo : zL} {st : List Value} {h : zH} : oAlen nx lo (.ref (w + 20) :: st) h = zgo nx lo (.int (nI 5) :: st) h := aln (zar_W20 hw)
theorem zar_W21 {w : Nat} (hw : zW w) : zar (w + 21) 8 := by rcases hw with rfl | rfl | rfl <;> exact ⟨rfl, rfl, by decide⟩
theorem ald_W21 {w : Nat} (hw : zW w) {i nx : Nat} {lo : zL} {st : List Value} {h : zH} (hi : i < 8) : oIald nx lo (.int (nI i) :: .ref (w + 21) :: st) h = zgo nx lo (.int (h (w + 21) i) :: st) h := ald (zar_W21 hw) hi (by decide)
theorem ast_W21 {w : Nat} (hw : zW w) {i nx : Nat} {lo : zL} {st : List Value} {h : zH} {x : Int32} (hi : i < 8) : oIast nx lo (.int x :: .int (nI i) :: .ref (w + 21) :: st) h = zgo nx lo st (zup h (w + 21) i x) := ast (zar_W21 hw) hi (by decide)
theorem aln_W21 {w : Nat} (hw : zW w) {nx : Nat} {lo : zL} {st : List Value} {h : zH} : oAlen nx lo (.ref (w + 21) :: st) h = zgo nx lo (.int (nI 8) :: st) h := aln (zar_W21 hw)
theorem zar_W22 {w : Nat} (hw : zW w) : zar (w + 22) 60 := by rcases hw with rfl | rfl | rfl <;> exact ⟨rfl, rfl, by decide⟩
theorem ald_W22 {w : Nat} (hw : zW w) {i nx : Nat} {lo : zL} {st : List Value} {h : zH} (hi : i < 60) : oIald nx lo (.int (nI i) :: .ref (w + 22) :: st) h = zgo nx lo (.int (h (w + 22) i) :: st) h := ald (zar_W22 hw) hi (by decide)
theorem ast_W22 {w : Nat} (hw : zW w) {i nx : Nat} {lo : zL} {st : List Value} {h : zH} {x : Int32} (hi : i < 60) : oIast nx lo (.int x :: .int (nI i) :: .ref (w + 22) :: st) h = zgo nx lo st (zup h (w + 22) i x) := ast (zar_W22 hw) hi (by decide)
theorem aln_W22 {w : Nat} (hw : zW w) {nx : Nat} {lo : zL} {st : List Value} {h : zH} : oAlen nx lo (.ref (w + 22) :: st) h = zgo nx lo (.int (nI 60) :: st) h := aln (zar_W22 hw)
theorem zar_W23 {w : Nat} (hw : zW w) : zar (w + 23) 24 := by rcases hw with rfl | rfl | rfl <;> exact ⟨rfl, rfl, by decide⟩
theorem ald_W23 {w : Nat} (hw : zW w) {i nx : Nat} {lo : zL} {st : List Value} {h : zH} (hi : i < 24) : oIald nx lo (.int (nI i) :: .ref (w + 23) :: st) h = zgo nx lo (.int (h (w + 23) i) :: st) h := ald (zar_W23 hw) hi (by decide)
theorem ast_W23 {w : Nat} (hw : zW w) {i nx : Nat} {lo : zL} {st : List Value} {h : zH} {x : Int32} (hi : i < 24) : oIast nx lo (.int x :: .int (nI i) :: .ref (w + 23) :: st) h = zgo nx lo st (zup h (w + 23) i x) := ast (zar_W23 hw) hi (by decide)
theorem aln_W23 {w : Nat} (hw : zW w) {nx : Nat} {lo : zL} {st : List Value} {h : zH} : oAlen nx lo (.ref (w + 23) :: st) h = zgo nx lo (.int (nI 24) :: st) h := aln (zar_W23 hw)
theorem zar_T1 {t : Nat} (hw : zTx t) : zar (t + 1) 60 := by rcases hw with rfl | rfl | rfl | rfl | rfl | rfl | rfl <;> exact ⟨rfl, rfl, by decide⟩
theorem ald_T1 {t : Nat} (hw : zTx t) {i nx : Nat} {lo : zL} {st : List Value} {h : zH} (hi : i < 60) : oIald nx lo (.int (nI i) :: .ref (t + 1) :: st) h = zgo nx lo (.int (h (t + 1) i) :: st) h := ald (zar_T1 hw) hi (by decide)
theorem ast_T1 {t : Nat} (hw : zTx t) {i nx : Nat} {lo : zL} {st : List Value} {h : zH} {x : Int32} (hi : i < 60) : oIast nx lo (.int x :: .int (nI i) :: .ref (t + 1) :: st) h = zgo nx lo st (zup h (t + 1) i x) := ast (zar_T1 hw) hi (by decide)
theorem aln_T1 {t : Nat} (hw : zTx t) {nx : Nat} {lo : zL} {st : List Value} {h : zH} : oAlen nx lo (.ref (t + 1) :: st) h = zgo nx lo (.int (nI 60) :: st) h := aln (zar_T1 hw)
theorem zar_T2 {t : Nat} (hw : zTx t) : zar (t + 2) 60 := by rcases hw with rfl | rfl | rfl | rfl | rfl | rfl | rfl <;> exact ⟨rfl, rfl, by decide⟩
theorem ald_T2 {t : Nat} (hw : zTx t) {i nx : Nat} {lo : zL} {st : List Value} {h : zH} (hi : i < 60) : oIald nx lo (.int (nI i) :: .ref (t + 2) :: st) h = zgo nx lo (.int (h (t + 2) i) :: st) h := ald (zar_T2 hw) hi (by decide)
theorem ast_T2 {t : Nat} (hw : zTx t) {i nx : Nat} {lo : zL} {st : List Value} {h : zH} {x : Int32} (hi : i < 60) : oIast nx lo (.int x :: .int (nI i) :: .ref (t + 2) :: st) h = zgo nx lo st (zup h (t + 2) i x) := ast (zar_T2 hw) hi (by decide)
theorem aln_T2 {t : Nat} (hw : zTx t) {nx : Nat} {lo : zL} {st : List Value} {h : zH} : oAlen nx lo (.ref (t + 2) :: st) h = zgo nx lo (.int (nI 60) :: st) h := aln (zar_T2 hw)
theorem zar_T3 {t : Nat} (hw : zTx t) : zar (t + 3) 60 := by rcases hw with rfl | rfl | rfl | rfl | rfl | rfl | rfl <;> exact ⟨rfl, rfl, by decide⟩
theorem ald_T3 {t : Nat} (hw : zTx t) {i nx : Nat} {lo : zL} {st : List Value} {h : zH} (hi : i < 60) : oIald nx lo (.int (nI i) :: .ref (t + 3) :: st) h = zgo nx lo (.int (h (t + 3) i) :: st) h := ald (zar_T3 hw) hi (by decide)
theorem ast_T3 {t : Nat} (hw : zTx t) {i nx : Nat} {lo : zL} {st : List Value} {h : zH} {x : Int32} (hi : i < 60) : oIast nx lo (.int x :: .int (nI i) :: .ref (t + 3) :: st) h = zgo nx lo st (zup h (t + 3) i x) := ast (zar_T3 hw) hi (by decide)
theorem aln_T3 {t : Nat} (hw : zTx t) {nx : Nat} {lo : zL} {st : List Value} {h : zH} : oAlen nx lo (.ref (t + 3) :: st) h = zgo nx lo (.int (nI 60) :: st) h := aln (zar_T3 hw)
theorem zar_row' : ∀ k, k < 8 → zar (1 + 4 + k) 8 ∧ zar (25 + 4 + k) 8 ∧ zar (49 + 4 + k) 8 := by unfold zar; decide +kernel
theorem zar_row {w k : Nat} (hw : zW w) (hk : k < 8) : zar (w + 4 + k) 8 := by rcases hw with rfl | rfl | rfl; exact (zar_row' k hk).1; exact (zar_row' k hk).2.1; exact (zar_row' k hk).2.2
theorem ald_row {w k : Nat} (hw : zW w) (hk : k < 8) {i nx : Nat} {lo : zL} {st : List Value} {h : zH} (hi : i < 8) : oIald nx lo (.int (nI i) :: .ref (w + 4 + k) :: st) h = zgo nx lo (.int (h (w + 4 + k) i) :: st) h := ald (zar_row hw hk) hi (by decide)
theorem ast_row {w k : Nat} (hw : zW w) (hk : k < 8) {i nx : Nat} {lo : zL} {st : List Value} {h : zH} {x : Int32} (hi : i < 8) : oIast nx lo (.int x :: .int (nI i) :: .ref (w + 4 + k) :: st) h = zgo nx lo st (zup h (w + 4 + k) i x) := ast (zar_row hw hk) hi (by decide)
theorem aln_row {w k : Nat} (hw : zW w) (hk : k < 8) {nx : Nat} {lo : zL} {st : List Value} {h : zH} : oAlen nx lo (.ref (w + 4 + k) :: st) h = zgo nx lo (.int (nI 8) :: st) h := aln (zar_row hw hk)
theorem zar_S1 {a : Nat} (hw : zSt a) : zar (a + 1) 24 := by rcases hw with rfl | rfl | rfl | rfl <;> exact ⟨rfl, rfl, by decide⟩
theorem ald_S1 {a : Nat} (hw : zSt a) {i nx : Nat} {lo : zL} {st : List Value} {h : zH} (hi : i < 24) : oIald nx lo (.int (nI i) :: .ref (a + 1) :: st) h = zgo nx lo (.int (h (a + 1) i) :: st) h := ald (zar_S1 hw) hi (by decide)
theorem ast_S1 {a : Nat} (hw : zSt a) {i nx : Nat} {lo : zL} {st : List Value} {h : zH} {x : Int32} (hi : i < 24) : oIast nx lo (.int x :: .int (nI i) :: .ref (a + 1) :: st) h = zgo nx lo st (zup h (a + 1) i x) := ast (zar_S1 hw) hi (by decide)
theorem aln_S1 {a : Nat} (hw : zSt a) {nx : Nat} {lo : zL} {st : List Value} {h : zH} : oAlen nx lo (.ref (a + 1) :: st) h = zgo nx lo (.int (nI 24) :: st) h := aln (zar_S1 hw)
theorem zar_seen' : ∀ k, k < 201 → zar (108 + k) 9 := by unfold zar; decide +kernel
theorem zar_seen {k : Nat} (hk : k < 201) : zar (108 + k) 9 := zar_seen' k hk
theorem ald_seen {k : Nat} (hk : k < 201) {i nx : Nat} {lo : zL} {st : List Value} {h : zH} (hi : i < 9) : oIald nx lo (.int (nI i) :: .ref (108 + k) :: st) h = zgo nx lo (.int (h (108 + k) i) :: st) h := ald (zar_seen hk) hi (by decide)
theorem ast_seen {k : Nat} (hk : k < 201) {i nx : Nat} {lo : zL} {st : List Value} {h : zH} {x : Int32} (hi : i < 9) : oIast nx lo (.int x :: .int (nI i) :: .ref (108 + k) :: st) h = zgo nx lo st (zup h (108 + k) i x) := ast (zar_seen hk) hi (by decide)
theorem aln_seen {k : Nat} (hk : k < 201) {nx : Nat} {lo : zL} {st : List Value} {h : zH} : oAlen nx lo (.ref (108 + k) :: st) h = zgo nx lo (.int (nI 9) :: st) h := aln (zar_seen hk)
theorem zar_n80  : zar (80) 30 := ⟨rfl, rfl, by decide⟩
theorem ald_n80  {i nx : Nat} {lo : zL} {st : List Value} {h : zH} (hi : i < 30) : oIald nx lo (.int (nI i) :: .ref (80) :: st) h = zgo nx lo (.int (h (80) i) :: st) h := ald (zar_n80) hi (by decide)
theorem ast_n80  {i nx : Nat} {lo : zL} {st : List Value} {h : zH} {x : Int32} (hi : i < 30) : oIast nx lo (.int x :: .int (nI i) :: .ref (80) :: st) h = zgo nx lo st (zup h (80) i x) := ast (zar_n80) hi (by decide)
theorem aln_n80  {nx : Nat} {lo : zL} {st : List Value} {h : zH} : oAlen nx lo (.ref (80) :: st) h = zgo nx lo (.int (nI 30) :: st) h := aln (zar_n80)
theorem zar_n90  : zar (90) 7 := ⟨rfl, rfl, by decide⟩
theorem ald_n90  {i nx : Nat} {lo : zL} {st : List Value} {h : zH} (hi : i < 7) : oIald nx lo (.int (nI i) :: .ref (90) :: st) h = zgo nx lo (.int (h (90) i) :: st) h := ald (zar_n90) hi (by decide)
theorem ast_n90  {i nx : Nat} {lo : zL} {st : List Value} {h : zH} {x : Int32} (hi : i < 7) : oIast nx lo (.int x :: .int (nI i) :: .ref (90) :: st) h = zgo nx lo st (zup h (90) i x) := ast (zar_n90) hi (by decide)
theorem aln_n90  {nx : Nat} {lo : zL} {st : List Value} {h : zH} : oAlen nx lo (.ref (90) :: st) h = zgo nx lo (.int (nI 7) :: st) h := aln (zar_n90)
theorem zar_n92  : zar (92) 488 := ⟨rfl, rfl, by decide⟩
theorem ald_n92  {i nx : Nat} {lo : zL} {st : List Value} {h : zH} (hi : i < 488) : oIald nx lo (.int (nI i) :: .ref (92) :: st) h = zgo nx lo (.int (h (92) i) :: st) h := ald (zar_n92) hi (by decide)
theorem ast_n92  {i nx : Nat} {lo : zL} {st : List Value} {h : zH} {x : Int32} (hi : i < 488) : oIast nx lo (.int x :: .int (nI i) :: .ref (92) :: st) h = zgo nx lo st (zup h (92) i x) := ast (zar_n92) hi (by decide)
theorem aln_n92  {nx : Nat} {lo : zL} {st : List Value} {h : zH} : oAlen nx lo (.ref (92) :: st) h = zgo nx lo (.int (nI 488) :: st) h := aln (zar_n92)
theorem zar_n93  : zar (93) 488 := ⟨rfl, rfl, by decide⟩
theorem ald_n93  {i nx : Nat} {lo : zL} {st : List Value} {h : zH} (hi : i < 488) : oIald nx lo (.int (nI i) :: .ref (93) :: st) h = zgo nx lo (.int (h (93) i) :: st) h := ald (zar_n93) hi (by decide)
theorem ast_n93  {i nx : Nat} {lo : zL} {st : List Value} {h : zH} {x : Int32} (hi : i < 488) : oIast nx lo (.int x :: .int (nI i) :: .ref (93) :: st) h = zgo nx lo st (zup h (93) i x) := ast (zar_n93) hi (by decide)
theorem aln_n93  {nx : Nat} {lo : zL} {st : List Value} {h : zH} : oAlen nx lo (.ref (93) :: st) h = zgo nx lo (.int (nI 488) :: st) h := aln (zar_n93)
theorem zar_n94  : zar (94) 488 := ⟨rfl, rfl, by decide⟩
theorem ald_n94  {i nx : Nat} {lo : zL} {st : List Value} {h : zH} (hi : i < 488) : oIald nx lo (.int (nI i) :: .ref (94) :: st) h = zgo nx lo (.int (h (94) i) :: st) h := ald (zar_n94) hi (by decide)
theorem ast_n94  {i nx : Nat} {lo : zL} {st : List Value} {h : zH} {x : Int32} (hi : i < 488) : oIast nx lo (.int x :: .int (nI i) :: .ref (94) :: st) h = zgo nx lo st (zup h (94) i x) := ast (zar_n94) hi (by decide)
theorem aln_n94  {nx : Nat} {lo : zL} {st : List Value} {h : zH} : oAlen nx lo (.ref (94) :: st) h = zgo nx lo (.int (nI 488) :: st) h := aln (zar_n94)
theorem zar_n95  : zar (95) 7 := ⟨rfl, rfl, by decide⟩
theorem ald_n95  {i nx : Nat} {lo : zL} {st : List Value} {h : zH} (hi : i < 7) : oIald nx lo (.int (nI i) :: .ref (95) :: st) h = zgo nx lo (.int (h (95) i) :: st) h := ald (zar_n95) hi (by decide)
theorem ast_n95  {i nx : Nat} {lo : zL} {st : List Value} {h : zH} {x : Int32} (hi : i < 7) : oIast nx lo (.int x :: .int (nI i) :: .ref (95) :: st) h = zgo nx lo st (zup h (95) i x) := ast (zar_n95) hi (by decide)
theorem aln_n95  {nx : Nat} {lo : zL} {st : List Value} {h : zH} : oAlen nx lo (.ref (95) :: st) h = zgo nx lo (.int (nI 7) :: st) h := aln (zar_n95)
theorem zar_n96  : zar (96) 124 := ⟨rfl, rfl, by decide⟩
theorem ald_n96  {i nx : Nat} {lo : zL} {st : List Value} {h : zH} (hi : i < 124) : oIald nx lo (.int (nI i) :: .ref (96) :: st) h = zgo nx lo (.int (h (96) i) :: st) h := ald (zar_n96) hi (by decide)
theorem ast_n96  {i nx : Nat} {lo : zL} {st : List Value} {h : zH} {x : Int32} (hi : i < 124) : oIast nx lo (.int x :: .int (nI i) :: .ref (96) :: st) h = zgo nx lo st (zup h (96) i x) := ast (zar_n96) hi (by decide)
theorem aln_n96  {nx : Nat} {lo : zL} {st : List Value} {h : zH} : oAlen nx lo (.ref (96) :: st) h = zgo nx lo (.int (nI 124) :: st) h := aln (zar_n96)
theorem zar_n97  : zar (97) 128 := ⟨rfl, rfl, by decide⟩
theorem ald_n97  {i nx : Nat} {lo : zL} {st : List Value} {h : zH} (hi : i < 128) : oIald nx lo (.int (nI i) :: .ref (97) :: st) h = zgo nx lo (.int (h (97) i) :: st) h := ald (zar_n97) hi (by decide)
theorem ast_n97  {i nx : Nat} {lo : zL} {st : List Value} {h : zH} {x : Int32} (hi : i < 128) : oIast nx lo (.int x :: .int (nI i) :: .ref (97) :: st) h = zgo nx lo st (zup h (97) i x) := ast (zar_n97) hi (by decide)
theorem aln_n97  {nx : Nat} {lo : zL} {st : List Value} {h : zH} : oAlen nx lo (.ref (97) :: st) h = zgo nx lo (.int (nI 128) :: st) h := aln (zar_n97)
theorem zar_n98  : zar (98) 64 := ⟨rfl, rfl, by decide⟩
theorem ald_n98  {i nx : Nat} {lo : zL} {st : List Value} {h : zH} (hi : i < 64) : oIald nx lo (.int (nI i) :: .ref (98) :: st) h = zgo nx lo (.int (h (98) i) :: st) h := ald (zar_n98) hi (by decide)
theorem ast_n98  {i nx : Nat} {lo : zL} {st : List Value} {h : zH} {x : Int32} (hi : i < 64) : oIast nx lo (.int x :: .int (nI i) :: .ref (98) :: st) h = zgo nx lo st (zup h (98) i x) := ast (zar_n98) hi (by decide)
theorem aln_n98  {nx : Nat} {lo : zL} {st : List Value} {h : zH} : oAlen nx lo (.ref (98) :: st) h = zgo nx lo (.int (nI 64) :: st) h := aln (zar_n98)
theorem zar_n99  : zar (99) 8 := ⟨rfl, rfl, by decide⟩
theorem ald_n99  {i nx : Nat} {lo : zL} {st : List Value} {h : zH} (hi : i < 8) : oIald nx lo (.int (nI i) :: .ref (99) :: st) h = zgo nx lo (.int (h (99) i) :: st) h := ald (zar_n99) hi (by decide)
theorem ast_n99  {i nx : Nat} {lo : zL} {st : List Value} {h : zH} {x : Int32} (hi : i < 8) : oIast nx lo (.int x :: .int (nI i) :: .ref (99) :: st) h = zgo nx lo st (zup h (99) i x) := ast (zar_n99) hi (by decide)
theorem aln_n99  {nx : Nat} {lo : zL} {st : List Value} {h : zH} : oAlen nx lo (.ref (99) :: st) h = zgo nx lo (.int (nI 8) :: st) h := aln (zar_n99)
theorem zar_n100  : zar (100) 1809 := ⟨rfl, rfl, by decide⟩
theorem ald_n100  {i nx : Nat} {lo : zL} {st : List Value} {h : zH} (hi : i < 1809) : oIald nx lo (.int (nI i) :: .ref (100) :: st) h = zgo nx lo (.int (h (100) i) :: st) h := ald (zar_n100) hi (by decide)
theorem ast_n100  {i nx : Nat} {lo : zL} {st : List Value} {h : zH} {x : Int32} (hi : i < 1809) : oIast nx lo (.int x :: .int (nI i) :: .ref (100) :: st) h = zgo nx lo st (zup h (100) i x) := ast (zar_n100) hi (by decide)
theorem aln_n100  {nx : Nat} {lo : zL} {st : List Value} {h : zH} : oAlen nx lo (.ref (100) :: st) h = zgo nx lo (.int (nI 1809) :: st) h := aln (zar_n100)
theorem zar_n101  : zar (101) 30 := ⟨rfl, rfl, by decide⟩
theorem ald_n101  {i nx : Nat} {lo : zL} {st : List Value} {h : zH} (hi : i < 30) : oIald nx lo (.int (nI i) :: .ref (101) :: st) h = zgo nx lo (.int (h (101) i) :: st) h := ald (zar_n101) hi (by decide)
theorem ast_n101  {i nx : Nat} {lo : zL} {st : List Value} {h : zH} {x : Int32} (hi : i < 30) : oIast nx lo (.int x :: .int (nI i) :: .ref (101) :: st) h = zgo nx lo st (zup h (101) i x) := ast (zar_n101) hi (by decide)
theorem aln_n101  {nx : Nat} {lo : zL} {st : List Value} {h : zH} : oAlen nx lo (.ref (101) :: st) h = zgo nx lo (.int (nI 30) :: st) h := aln (zar_n101)
theorem zar_n102  : zar (102) 4 := ⟨rfl, rfl, by decide⟩
theorem ald_n102  {i nx : Nat} {lo : zL} {st : List Value} {h : zH} (hi : i < 4) : oIald nx lo (.int (nI i) :: .ref (102) :: st) h = zgo nx lo (.int (h (102) i) :: st) h := ald (zar_n102) hi (by decide)
theorem ast_n102  {i nx : Nat} {lo : zL} {st : List Value} {h : zH} {x : Int32} (hi : i < 4) : oIast nx lo (.int x :: .int (nI i) :: .ref (102) :: st) h = zgo nx lo st (zup h (102) i x) := ast (zar_n102) hi (by decide)
theorem aln_n102  {nx : Nat} {lo : zL} {st : List Value} {h : zH} : oAlen nx lo (.ref (102) :: st) h = zgo nx lo (.int (nI 4) :: st) h := aln (zar_n102)
theorem zar_n103  : zar (103) 4 := ⟨rfl, rfl, by decide⟩
theorem ald_n103  {i nx : Nat} {lo : zL} {st : List Value} {h : zH} (hi : i < 4) : oIald nx lo (.int (nI i) :: .ref (103) :: st) h = zgo nx lo (.int (h (103) i) :: st) h := ald (zar_n103) hi (by decide)
theorem ast_n103  {i nx : Nat} {lo : zL} {st : List Value} {h : zH} {x : Int32} (hi : i < 4) : oIast nx lo (.int x :: .int (nI i) :: .ref (103) :: st) h = zgo nx lo st (zup h (103) i x) := ast (zar_n103) hi (by decide)
theorem aln_n103  {nx : Nat} {lo : zL} {st : List Value} {h : zH} : oAlen nx lo (.ref (103) :: st) h = zgo nx lo (.int (nI 4) :: st) h := aln (zar_n103)
theorem zar_n104  : zar (104) 96 := ⟨rfl, rfl, by decide⟩
theorem ald_n104  {i nx : Nat} {lo : zL} {st : List Value} {h : zH} (hi : i < 96) : oIald nx lo (.int (nI i) :: .ref (104) :: st) h = zgo nx lo (.int (h (104) i) :: st) h := ald (zar_n104) hi (by decide)
theorem ast_n104  {i nx : Nat} {lo : zL} {st : List Value} {h : zH} {x : Int32} (hi : i < 96) : oIast nx lo (.int x :: .int (nI i) :: .ref (104) :: st) h = zgo nx lo st (zup h (104) i x) := ast (zar_n104) hi (by decide)
theorem aln_n104  {nx : Nat} {lo : zL} {st : List Value} {h : zH} : oAlen nx lo (.ref (104) :: st) h = zgo nx lo (.int (nI 96) :: st) h := aln (zar_n104)
theorem zar_n105  : zar (105) 24 := ⟨rfl, rfl, by decide⟩
theorem ald_n105  {i nx : Nat} {lo : zL} {st : List Value} {h : zH} (hi : i < 24) : oIald nx lo (.int (nI i) :: .ref (105) :: st) h = zgo nx lo (.int (h (105) i) :: st) h := ald (zar_n105) hi (by decide)
theorem ast_n105  {i nx : Nat} {lo : zL} {st : List Value} {h : zH} {x : Int32} (hi : i < 24) : oIast nx lo (.int x :: .int (nI i) :: .ref (105) :: st) h = zgo nx lo st (zup h (105) i x) := ast (zar_n105) hi (by decide)
theorem aln_n105  {nx : Nat} {lo : zL} {st : List Value} {h : zH} : oAlen nx lo (.ref (105) :: st) h = zgo nx lo (.int (nI 24) :: st) h := aln (zar_n105)
theorem gf_W0 {w : Nat} (hw : zW w) {nx : Nat} {lo : zL} {st : List Value} {h : zH} : oGf 5 0 nx lo (.ref (w) :: st) h = zgo nx lo (.ref (w + 1) :: st) h := by rcases hw with rfl | rfl | rfl <;> rfl
theorem gf_W1 {w : Nat} (hw : zW w) {nx : Nat} {lo : zL} {st : List Value} {h : zH} : oGf 5 1 nx lo (.ref (w) :: st) h = zgo nx lo (.ref (w + 2) :: st) h := by rcases hw with rfl | rfl | rfl <;> rfl
theorem gf_W2 {w : Nat} (hw : zW w) {nx : Nat} {lo : zL} {st : List Value} {h : zH} : oGf 5 2 nx lo (.ref (w) :: st) h = zgo nx lo (.ref (w + 3) :: st) h := by rcases hw with rfl | rfl | rfl <;> rfl
theorem gf_W3 {w : Nat} (hw : zW w) {nx : Nat} {lo : zL} {st : List Value} {h : zH} : oGf 5 3 nx lo (.ref (w) :: st) h = zgo nx lo (.ref (w + 12) :: st) h := by rcases hw with rfl | rfl | rfl <;> rfl
theorem gf_W4 {w : Nat} (hw : zW w) {nx : Nat} {lo : zL} {st : List Value} {h : zH} : oGf 5 4 nx lo (.ref (w) :: st) h = zgo nx lo (.ref (w + 16) :: st) h := by rcases hw with rfl | rfl | rfl <;> rfl
theorem gf_W5 {w : Nat} (hw : zW w) {nx : Nat} {lo : zL} {st : List Value} {h : zH} : oGf 5 5 nx lo (.ref (w) :: st) h = zgo nx lo (.ref (w + 20) :: st) h := by rcases hw with rfl | rfl | rfl <;> rfl
theorem gf_W6 {w : Nat} (hw : zW w) {nx : Nat} {lo : zL} {st : List Value} {h : zH} : oGf 5 6 nx lo (.ref (w) :: st) h = zgo nx lo (.ref (w + 21) :: st) h := by rcases hw with rfl | rfl | rfl <;> rfl
theorem gf_W7 {w : Nat} (hw : zW w) {nx : Nat} {lo : zL} {st : List Value} {h : zH} : oGf 5 7 nx lo (.ref (w) :: st) h = zgo nx lo (.ref (w + 22) :: st) h := by rcases hw with rfl | rfl | rfl <;> rfl
theorem gf_W8 {w : Nat} (hw : zW w) {nx : Nat} {lo : zL} {st : List Value} {h : zH} : oGf 5 8 nx lo (.ref (w) :: st) h = zgo nx lo (.ref (w + 23) :: st) h := by rcases hw with rfl | rfl | rfl <;> rfl
theorem gf_W9 {w : Nat} (hw : zW w) {nx : Nat} {lo : zL} {st : List Value} {h : zH} : oGf 5 9 nx lo (.ref (w) :: st) h = zgo nx lo (.int (h (w) 9) :: st) h := by rcases hw with rfl | rfl | rfl <;> rfl
theorem pf_W9 {w : Nat} (hw : zW w) {nx : Nat} {lo : zL} {st : List Value} {h : zH} {x : Int32} : oPf 5 9 nx lo (.int x :: .ref (w) :: st) h = zgo nx lo st (zup h (w) 9 x) := by rcases hw with rfl | rfl | rfl <;> rfl
theorem gf_W10 {w : Nat} (hw : zW w) {nx : Nat} {lo : zL} {st : List Value} {h : zH} : oGf 5 10 nx lo (.ref (w) :: st) h = zgo nx lo (.int (h (w) 10) :: st) h := by rcases hw with rfl | rfl | rfl <;> rfl
theorem pf_W10 {w : Nat} (hw : zW w) {nx : Nat} {lo : zL} {st : List Value} {h : zH} {x : Int32} : oPf 5 10 nx lo (.int x :: .ref (w) :: st) h = zgo nx lo st (zup h (w) 10 x) := by rcases hw with rfl | rfl | rfl <;> rfl
theorem gf_W11 {w : Nat} (hw : zW w) {nx : Nat} {lo : zL} {st : List Value} {h : zH} : oGf 5 11 nx lo (.ref (w) :: st) h = zgo nx lo (.int (h (w) 11) :: st) h := by rcases hw with rfl | rfl | rfl <;> rfl
theorem pf_W11 {w : Nat} (hw : zW w) {nx : Nat} {lo : zL} {st : List Value} {h : zH} {x : Int32} : oPf 5 11 nx lo (.int x :: .ref (w) :: st) h = zgo nx lo st (zup h (w) 11 x) := by rcases hw with rfl | rfl | rfl <;> rfl
theorem gf_W12 {w : Nat} (hw : zW w) {nx : Nat} {lo : zL} {st : List Value} {h : zH} : oGf 5 12 nx lo (.ref (w) :: st) h = zgo nx lo (.int (h (w) 12) :: st) h := by rcases hw with rfl | rfl | rfl <;> rfl
theorem pf_W12 {w : Nat} (hw : zW w) {nx : Nat} {lo : zL} {st : List Value} {h : zH} {x : Int32} : oPf 5 12 nx lo (.int x :: .ref (w) :: st) h = zgo nx lo st (zup h (w) 12 x) := by rcases hw with rfl | rfl | rfl <;> rfl
theorem gf_W13 {w : Nat} (hw : zW w) {nx : Nat} {lo : zL} {st : List Value} {h : zH} : oGf 5 13 nx lo (.ref (w) :: st) h = zgo nx lo (.int (h (w) 13) :: st) h := by rcases hw with rfl | rfl | rfl <;> rfl
theorem pf_W13 {w : Nat} (hw : zW w) {nx : Nat} {lo : zL} {st : List Value} {h : zH} {x : Int32} : oPf 5 13 nx lo (.int x :: .ref (w) :: st) h = zgo nx lo st (zup h (w) 13 x) := by rcases hw with rfl | rfl | rfl <;> rfl
theorem gf_W14 {w : Nat} (hw : zW w) {nx : Nat} {lo : zL} {st : List Value} {h : zH} : oGf 5 14 nx lo (.ref (w) :: st) h = zgo nx lo (.int (h (w) 14) :: st) h := by rcases hw with rfl | rfl | rfl <;> rfl
theorem pf_W14 {w : Nat} (hw : zW w) {nx : Nat} {lo : zL} {st : List Value} {h : zH} {x : Int32} : oPf 5 14 nx lo (.int x :: .ref (w) :: st) h = zgo nx lo st (zup h (w) 14 x) := by rcases hw with rfl | rfl | rfl <;> rfl
theorem rc_W {w : Nat} (hw : zW w) {as : List Value} : (zrc 5 (.ref (w) :: as) = true) = True := eq_true (by rcases hw with rfl | rfl | rfl <;> rfl)
theorem gf_T0 {t : Nat} (hw : zTx t) {nx : Nat} {lo : zL} {st : List Value} {h : zH} : oGf 4 0 nx lo (.ref (t) :: st) h = zgo nx lo (.ref (t + 1) :: st) h := by rcases hw with rfl | rfl | rfl | rfl | rfl | rfl | rfl <;> rfl
theorem gf_T1 {t : Nat} (hw : zTx t) {nx : Nat} {lo : zL} {st : List Value} {h : zH} : oGf 4 1 nx lo (.ref (t) :: st) h = zgo nx lo (.ref (t + 2) :: st) h := by rcases hw with rfl | rfl | rfl | rfl | rfl | rfl | rfl <;> rfl
theorem gf_T2 {t : Nat} (hw : zTx t) {nx : Nat} {lo : zL} {st : List Value} {h : zH} : oGf 4 2 nx lo (.ref (t) :: st) h = zgo nx lo (.ref (t + 3) :: st) h := by rcases hw with rfl | rfl | rfl | rfl | rfl | rfl | rfl <;> rfl
theorem gf_T3 {t : Nat} (hw : zTx t) {nx : Nat} {lo : zL} {st : List Value} {h : zH} : oGf 4 3 nx lo (.ref (t) :: st) h = zgo nx lo (.int (h (t) 3) :: st) h := by rcases hw with rfl | rfl | rfl | rfl | rfl | rfl | rfl <;> rfl
theorem pf_T3 {t : Nat} (hw : zTx t) {nx : Nat} {lo : zL} {st : List Value} {h : zH} {x : Int32} : oPf 4 3 nx lo (.int x :: .ref (t) :: st) h = zgo nx lo st (zup h (t) 3 x) := by rcases hw with rfl | rfl | rfl | rfl | rfl | rfl | rfl <;> rfl
theorem gf_T4 {t : Nat} (hw : zTx t) {nx : Nat} {lo : zL} {st : List Value} {h : zH} : oGf 4 4 nx lo (.ref (t) :: st) h = zgo nx lo (.int (h (t) 4) :: st) h := by rcases hw with rfl | rfl | rfl | rfl | rfl | rfl | rfl <;> rfl
theorem pf_T4_0 {t : Nat} (hw : zTx t) {nx : Nat} {lo : zL} {st : List Value} {h : zH} : oPf 4 4 nx lo (.int (nI 0) :: .ref (t) :: st) h = zgo nx lo st (zup h (t) 4 (nI 0)) := by rcases hw with rfl | rfl | rfl | rfl | rfl | rfl | rfl <;> rfl
theorem pf_T4_1 {t : Nat} (hw : zTx t) {nx : Nat} {lo : zL} {st : List Value} {h : zH} : oPf 4 4 nx lo (.int (nI 1) :: .ref (t) :: st) h = zgo nx lo st (zup h (t) 4 (nI 1)) := by rcases hw with rfl | rfl | rfl | rfl | rfl | rfl | rfl <;> rfl
theorem pf_T4 {t : Nat} (hw : zTx t) {nx : Nat} {lo : zL} {st : List Value} {h : zH} {x : Int32} (hx : x = nI 0 ∨ x = nI 1) : oPf 4 4 nx lo (.int x :: .ref (t) :: st) h = zgo nx lo st (zup h (t) 4 x) := by
  rcases hx with rfl | rfl
  · exact pf_T4_0 hw
  · exact pf_T4_1 hw
theorem rc_T {t : Nat} (hw : zTx t) {as : List Value} : (zrc 4 (.ref (t) :: as) = true) = True := eq_true (by rcases hw with rfl | rfl | rfl | rfl | rfl | rfl | rfl <;> rfl)
theorem gf_S0 {a : Nat} (hw : zSt a) {nx : Nat} {lo : zL} {st : List Value} {h : zH} : oGf 2 0 nx lo (.ref (a) :: st) h = zgo nx lo (.ref (a + 1) :: st) h := by rcases hw with rfl | rfl | rfl | rfl <;> rfl
theorem gf_S1 {a : Nat} (hw : zSt a) {nx : Nat} {lo : zL} {st : List Value} {h : zH} : oGf 2 1 nx lo (.ref (a) :: st) h = zgo nx lo (.int (h (a) 1) :: st) h := by rcases hw with rfl | rfl | rfl | rfl <;> rfl
theorem pf_S1 {a : Nat} (hw : zSt a) {nx : Nat} {lo : zL} {st : List Value} {h : zH} {x : Int32} : oPf 2 1 nx lo (.int x :: .ref (a) :: st) h = zgo nx lo st (zup h (a) 1 x) := by rcases hw with rfl | rfl | rfl | rfl <;> rfl
theorem gf_S2 {a : Nat} (hw : zSt a) {nx : Nat} {lo : zL} {st : List Value} {h : zH} : oGf 2 2 nx lo (.ref (a) :: st) h = zgo nx lo (.int (h (a) 2) :: st) h := by rcases hw with rfl | rfl | rfl | rfl <;> rfl
theorem pf_S2 {a : Nat} (hw : zSt a) {nx : Nat} {lo : zL} {st : List Value} {h : zH} {x : Int32} : oPf 2 2 nx lo (.int x :: .ref (a) :: st) h = zgo nx lo st (zup h (a) 2 x) := by rcases hw with rfl | rfl | rfl | rfl <;> rfl
theorem rc_S {a : Nat} (hw : zSt a) {as : List Value} : (zrc 2 (.ref (a) :: as) = true) = True := eq_true (by rcases hw with rfl | rfl | rfl | rfl <;> rfl)
theorem gf_L0  {nx : Nat} {lo : zL} {st : List Value} {h : zH} : oGf 6 0 nx lo (.ref (0) :: st) h = zgo nx lo (.ref (1) :: st) h := rfl
theorem gf_L1  {nx : Nat} {lo : zL} {st : List Value} {h : zH} : oGf 6 1 nx lo (.ref (0) :: st) h = zgo nx lo (.ref (25) :: st) h := rfl
theorem gf_L2  {nx : Nat} {lo : zL} {st : List Value} {h : zH} : oGf 6 2 nx lo (.ref (0) :: st) h = zgo nx lo (.ref (49) :: st) h := rfl
theorem gf_L3  {nx : Nat} {lo : zL} {st : List Value} {h : zH} : oGf 6 3 nx lo (.ref (0) :: st) h = zgo nx lo (.ref (73) :: st) h := rfl
theorem gf_L4  {nx : Nat} {lo : zL} {st : List Value} {h : zH} : oGf 6 4 nx lo (.ref (0) :: st) h = zgo nx lo (.ref (79) :: st) h := rfl
theorem gf_L5  {nx : Nat} {lo : zL} {st : List Value} {h : zH} : oGf 6 5 nx lo (.ref (0) :: st) h = zgo nx lo (.ref (106) :: st) h := rfl
theorem gf_L6  {nx : Nat} {lo : zL} {st : List Value} {h : zH} : oGf 6 6 nx lo (.ref (0) :: st) h = zgo nx lo (.ref (81) :: st) h := rfl
theorem gf_L7  {nx : Nat} {lo : zL} {st : List Value} {h : zH} : oGf 6 7 nx lo (.ref (0) :: st) h = zgo nx lo (.ref (90) :: st) h := rfl
theorem gf_L8  {nx : Nat} {lo : zL} {st : List Value} {h : zH} : oGf 6 8 nx lo (.ref (0) :: st) h = zgo nx lo (.int (h (0) 8) :: st) h := rfl
theorem pf_L8  {nx : Nat} {lo : zL} {st : List Value} {h : zH} {x : Int32} : oPf 6 8 nx lo (.int x :: .ref (0) :: st) h = zgo nx lo st (zup h (0) 8 x) := rfl
theorem rc_L  {as : List Value} : (zrc 6 (.ref (0) :: as) = true) = True := eq_true (rfl)
theorem gf_R0  {nx : Nat} {lo : zL} {st : List Value} {h : zH} : oGf 0 0 nx lo (.ref (73) :: st) h = zgo nx lo (.ref (74) :: st) h := rfl
theorem gf_R1  {nx : Nat} {lo : zL} {st : List Value} {h : zH} : oGf 0 1 nx lo (.ref (73) :: st) h = zgo nx lo (.ref (h (73) 1).toNatClampNeg :: st) h := rfl
theorem pf_R1  {nx r : Nat} {lo : zL} {st : List Value} {h : zH} (hr : r < 1000) : oPf 0 1 nx lo (.ref r :: .ref (73) :: st) h = zgo nx lo st (zup h (73) 1 (nI r)) := by
  simp only [oPf, zsh_73, hr]
  rfl
theorem gf_R2  {nx : Nat} {lo : zL} {st : List Value} {h : zH} : oGf 0 2 nx lo (.ref (73) :: st) h = zgo nx lo (.int (h (73) 2) :: st) h := rfl
theorem pf_R2  {nx : Nat} {lo : zL} {st : List Value} {h : zH} {x : Int32} : oPf 0 2 nx lo (.int x :: .ref (73) :: st) h = zgo nx lo st (zup h (73) 2 x) := rfl
theorem gf_R3  {nx : Nat} {lo : zL} {st : List Value} {h : zH} : oGf 0 3 nx lo (.ref (73) :: st) h = zgo nx lo (.int (h (73) 3) :: st) h := rfl
theorem pf_R3  {nx : Nat} {lo : zL} {st : List Value} {h : zH} {x : Int32} : oPf 0 3 nx lo (.int x :: .ref (73) :: st) h = zgo nx lo st (zup h (73) 3 x) := rfl
theorem gf_R4  {nx : Nat} {lo : zL} {st : List Value} {h : zH} : oGf 0 4 nx lo (.ref (73) :: st) h = zgo nx lo (.int (h (73) 4) :: st) h := rfl
theorem pf_R4  {nx : Nat} {lo : zL} {st : List Value} {h : zH} {x : Int32} : oPf 0 4 nx lo (.int x :: .ref (73) :: st) h = zgo nx lo st (zup h (73) 4 x) := rfl
theorem gf_R5  {nx : Nat} {lo : zL} {st : List Value} {h : zH} : oGf 0 5 nx lo (.ref (73) :: st) h = zgo nx lo (.ref (h (73) 5).toNatClampNeg :: st) h := rfl
theorem pf_R5  {nx r : Nat} {lo : zL} {st : List Value} {h : zH} (hr : r < 1000) : oPf 0 5 nx lo (.ref r :: .ref (73) :: st) h = zgo nx lo st (zup h (73) 5 (nI r)) := by
  simp only [oPf, zsh_73, hr]
  rfl
theorem rc_R  {as : List Value} : (zrc 0 (.ref (73) :: as) = true) = True := eq_true (rfl)
theorem gf_P0  {nx : Nat} {lo : zL} {st : List Value} {h : zH} : oGf 3 0 nx lo (.ref (79) :: st) h = zgo nx lo (.ref (80) :: st) h := rfl
theorem gf_P1  {nx : Nat} {lo : zL} {st : List Value} {h : zH} : oGf 3 1 nx lo (.ref (79) :: st) h = zgo nx lo (.int (h (79) 1) :: st) h := rfl
theorem pf_P1  {nx : Nat} {lo : zL} {st : List Value} {h : zH} {x : Int32} : oPf 3 1 nx lo (.int x :: .ref (79) :: st) h = zgo nx lo st (zup h (79) 1 x) := rfl
theorem gf_P2  {nx : Nat} {lo : zL} {st : List Value} {h : zH} : oGf 3 2 nx lo (.ref (79) :: st) h = zgo nx lo (.int (h (79) 2) :: st) h := rfl
theorem pf_P2_0  {nx : Nat} {lo : zL} {st : List Value} {h : zH} : oPf 3 2 nx lo (.int (nI 0) :: .ref (79) :: st) h = zgo nx lo st (zup h (79) 2 (nI 0)) := rfl
theorem pf_P2_1  {nx : Nat} {lo : zL} {st : List Value} {h : zH} : oPf 3 2 nx lo (.int (nI 1) :: .ref (79) :: st) h = zgo nx lo st (zup h (79) 2 (nI 1)) := rfl
theorem pf_P2  {nx : Nat} {lo : zL} {st : List Value} {h : zH} {x : Int32} (hx : x = nI 0 ∨ x = nI 1) : oPf 3 2 nx lo (.int x :: .ref (79) :: st) h = zgo nx lo st (zup h (79) 2 x) := by
  rcases hx with rfl | rfl
  · exact pf_P2_0
  · exact pf_P2_1
theorem gf_P3  {nx : Nat} {lo : zL} {st : List Value} {h : zH} : oGf 3 3 nx lo (.ref (79) :: st) h = zgo nx lo (.int (h (79) 3) :: st) h := rfl
theorem pf_P3  {nx : Nat} {lo : zL} {st : List Value} {h : zH} {x : Int32} : oPf 3 3 nx lo (.int x :: .ref (79) :: st) h = zgo nx lo st (zup h (79) 3 x) := rfl
theorem gf_P4  {nx : Nat} {lo : zL} {st : List Value} {h : zH} : oGf 3 4 nx lo (.ref (79) :: st) h = zgo nx lo (.int (h (79) 4) :: st) h := rfl
theorem pf_P4  {nx : Nat} {lo : zL} {st : List Value} {h : zH} {x : Int32} : oPf 3 4 nx lo (.int x :: .ref (79) :: st) h = zgo nx lo st (zup h (79) 4 x) := rfl
theorem gf_P5  {nx : Nat} {lo : zL} {st : List Value} {h : zH} : oGf 3 5 nx lo (.ref (79) :: st) h = zgo nx lo (.int (h (79) 5) :: st) h := rfl
theorem pf_P5  {nx : Nat} {lo : zL} {st : List Value} {h : zH} {x : Int32} : oPf 3 5 nx lo (.int x :: .ref (79) :: st) h = zgo nx lo st (zup h (79) 5 x) := rfl
theorem rc_P  {as : List Value} : (zrc 3 (.ref (79) :: as) = true) = True := eq_true (rfl)
theorem gf_D0  {nx : Nat} {lo : zL} {st : List Value} {h : zH} : oGf 1 0 nx lo (.ref (106) :: st) h = zgo nx lo (.ref (107) :: st) h := rfl
theorem rc_D  {as : List Value} : (zrc 1 (.ref (106) :: as) = true) = True := eq_true (rfl)
theorem gf_M0  {nx : Nat} {lo : zL} {st : List Value} {h : zH} : oGf 7 0 nx lo (.ref (91) :: st) h = zgo nx lo (.ref (92) :: st) h := rfl
theorem gf_M1  {nx : Nat} {lo : zL} {st : List Value} {h : zH} : oGf 7 1 nx lo (.ref (91) :: st) h = zgo nx lo (.ref (93) :: st) h := rfl
theorem gf_M2  {nx : Nat} {lo : zL} {st : List Value} {h : zH} : oGf 7 2 nx lo (.ref (91) :: st) h = zgo nx lo (.ref (94) :: st) h := rfl
theorem gf_M3  {nx : Nat} {lo : zL} {st : List Value} {h : zH} : oGf 7 3 nx lo (.ref (91) :: st) h = zgo nx lo (.int (h (91) 3) :: st) h := rfl
theorem pf_M3  {nx : Nat} {lo : zL} {st : List Value} {h : zH} {x : Int32} : oPf 7 3 nx lo (.int x :: .ref (91) :: st) h = zgo nx lo st (zup h (91) 3 x) := rfl
theorem gf_M4  {nx : Nat} {lo : zL} {st : List Value} {h : zH} : oGf 7 4 nx lo (.ref (91) :: st) h = zgo nx lo (.ref (95) :: st) h := rfl
theorem gf_M5  {nx : Nat} {lo : zL} {st : List Value} {h : zH} : oGf 7 5 nx lo (.ref (91) :: st) h = zgo nx lo (.int (h (91) 5) :: st) h := rfl
theorem pf_M5  {nx : Nat} {lo : zL} {st : List Value} {h : zH} {x : Int32} : oPf 7 5 nx lo (.int x :: .ref (91) :: st) h = zgo nx lo st (zup h (91) 5 x) := rfl
theorem gf_M6  {nx : Nat} {lo : zL} {st : List Value} {h : zH} : oGf 7 6 nx lo (.ref (91) :: st) h = zgo nx lo (.int (h (91) 6) :: st) h := rfl
theorem pf_M6  {nx : Nat} {lo : zL} {st : List Value} {h : zH} {x : Int32} : oPf 7 6 nx lo (.int x :: .ref (91) :: st) h = zgo nx lo st (zup h (91) 6 x) := rfl
theorem gf_M7  {nx : Nat} {lo : zL} {st : List Value} {h : zH} : oGf 7 7 nx lo (.ref (91) :: st) h = zgo nx lo (.int (h (91) 7) :: st) h := rfl
theorem pf_M7  {nx : Nat} {lo : zL} {st : List Value} {h : zH} {x : Int32} : oPf 7 7 nx lo (.int x :: .ref (91) :: st) h = zgo nx lo st (zup h (91) 7 x) := rfl
theorem gf_M8  {nx : Nat} {lo : zL} {st : List Value} {h : zH} : oGf 7 8 nx lo (.ref (91) :: st) h = zgo nx lo (.int (h (91) 8) :: st) h := rfl
theorem pf_M8  {nx : Nat} {lo : zL} {st : List Value} {h : zH} {x : Int32} : oPf 7 8 nx lo (.int x :: .ref (91) :: st) h = zgo nx lo st (zup h (91) 8 x) := rfl
theorem gf_M9  {nx : Nat} {lo : zL} {st : List Value} {h : zH} : oGf 7 9 nx lo (.ref (91) :: st) h = zgo nx lo (.ref (96) :: st) h := rfl
theorem gf_M10  {nx : Nat} {lo : zL} {st : List Value} {h : zH} : oGf 7 10 nx lo (.ref (91) :: st) h = zgo nx lo (.ref (97) :: st) h := rfl
theorem gf_M11  {nx : Nat} {lo : zL} {st : List Value} {h : zH} : oGf 7 11 nx lo (.ref (91) :: st) h = zgo nx lo (.ref (98) :: st) h := rfl
theorem gf_M12  {nx : Nat} {lo : zL} {st : List Value} {h : zH} : oGf 7 12 nx lo (.ref (91) :: st) h = zgo nx lo (.ref (99) :: st) h := rfl
theorem gf_M13  {nx : Nat} {lo : zL} {st : List Value} {h : zH} : oGf 7 13 nx lo (.ref (91) :: st) h = zgo nx lo (.ref (100) :: st) h := rfl
theorem gf_M14  {nx : Nat} {lo : zL} {st : List Value} {h : zH} : oGf 7 14 nx lo (.ref (91) :: st) h = zgo nx lo (.ref (101) :: st) h := rfl
theorem gf_M15  {nx : Nat} {lo : zL} {st : List Value} {h : zH} : oGf 7 15 nx lo (.ref (91) :: st) h = zgo nx lo (.int (h (91) 15) :: st) h := rfl
theorem pf_M15  {nx : Nat} {lo : zL} {st : List Value} {h : zH} {x : Int32} : oPf 7 15 nx lo (.int x :: .ref (91) :: st) h = zgo nx lo st (zup h (91) 15 x) := rfl
theorem gf_M16  {nx : Nat} {lo : zL} {st : List Value} {h : zH} : oGf 7 16 nx lo (.ref (91) :: st) h = zgo nx lo (.int (h (91) 16) :: st) h := rfl
theorem pf_M16  {nx : Nat} {lo : zL} {st : List Value} {h : zH} {x : Int32} : oPf 7 16 nx lo (.int x :: .ref (91) :: st) h = zgo nx lo st (zup h (91) 16 x) := rfl
theorem gf_M17  {nx : Nat} {lo : zL} {st : List Value} {h : zH} : oGf 7 17 nx lo (.ref (91) :: st) h = zgo nx lo (.int (h (91) 17) :: st) h := rfl
theorem pf_M17_0  {nx : Nat} {lo : zL} {st : List Value} {h : zH} : oPf 7 17 nx lo (.int (nI 0) :: .ref (91) :: st) h = zgo nx lo st (zup h (91) 17 (nI 0)) := rfl
theorem pf_M17_1  {nx : Nat} {lo : zL} {st : List Value} {h : zH} : oPf 7 17 nx lo (.int (nI 1) :: .ref (91) :: st) h = zgo nx lo st (zup h (91) 17 (nI 1)) := rfl
theorem pf_M17  {nx : Nat} {lo : zL} {st : List Value} {h : zH} {x : Int32} (hx : x = nI 0 ∨ x = nI 1) : oPf 7 17 nx lo (.int x :: .ref (91) :: st) h = zgo nx lo st (zup h (91) 17 x) := by
  rcases hx with rfl | rfl
  · exact pf_M17_0
  · exact pf_M17_1
theorem gf_M18  {nx : Nat} {lo : zL} {st : List Value} {h : zH} : oGf 7 18 nx lo (.ref (91) :: st) h = zgo nx lo (.ref (102) :: st) h := rfl
theorem gf_M19  {nx : Nat} {lo : zL} {st : List Value} {h : zH} : oGf 7 19 nx lo (.ref (91) :: st) h = zgo nx lo (.ref (103) :: st) h := rfl
theorem gf_M20  {nx : Nat} {lo : zL} {st : List Value} {h : zH} : oGf 7 20 nx lo (.ref (91) :: st) h = zgo nx lo (.ref (104) :: st) h := rfl
theorem gf_M21  {nx : Nat} {lo : zL} {st : List Value} {h : zH} : oGf 7 21 nx lo (.ref (91) :: st) h = zgo nx lo (.ref (105) :: st) h := rfl
theorem rc_M  {as : List Value} : (zrc 7 (.ref (91) :: as) = true) = True := eq_true (rfl)
theorem aal {a n i r nx : Nat} {lo : zL} {st : List Value} {h : zH} (h1 : (zsh a).1 = 2) (h2 : (zsh a).2.2.1.length = n) (h3 : a < 309) (hi : i < n) (hn : n < 2 ^ 31) (hr : ((zsh a).2.2.1.getD i (0, 0)).2 = r) : oAald nx lo (.int (nI i) :: .ref a :: st) h = zgo nx lo (.ref r :: st) h := by
  have h4 := nI_rng hi hn
  simp only [oAald, h1, h2, h3, h4, and_self, if_true, nI_clamp (show i < 2 ^ 31 by omega), hr]
theorem aal_W' : ∀ i, i < 8 → ((zsh (1 + 3)).2.2.1.getD i (0, 0)).2 = 1 + 4 + i ∧ ((zsh (25 + 3)).2.2.1.getD i (0, 0)).2 = 25 + 4 + i ∧ ((zsh (49 + 3)).2.2.1.getD i (0, 0)).2 = 49 + 4 + i := by decide +kernel
theorem aal_W {w i nx : Nat} (hw : zW w) {lo : zL} {st : List Value} {h : zH} (hi : i < 8) : oAald nx lo (.int (nI i) :: .ref (w + 3) :: st) h = zgo nx lo (.ref (w + 4 + i) :: st) h := by
  rcases hw with rfl | rfl | rfl
  · exact aal rfl rfl (by decide) hi (by decide) (aal_W' i hi).1
  · exact aal rfl rfl (by decide) hi (by decide) (aal_W' i hi).2.1
  · exact aal rfl rfl (by decide) hi (by decide) (aal_W' i hi).2.2
theorem aal_S' : ∀ i, i < 4 → ((zsh 81).2.2.1.getD i (0, 0)).2 = 82 + 2 * i := by decide +kernel
theorem aal_S {i nx : Nat} {lo : zL} {st : List Value} {h : zH} (hi : i < 4) : oAald nx lo (.int (nI i) :: .ref 81 :: st) h = zgo nx lo (.ref (82 + 2 * i) :: st) h := aal rfl rfl (by decide) hi (by decide) (aal_S' i hi)
theorem zSt_of : ∀ i, i < 4 → zSt (82 + 2 * i) := by unfold zSt; decide
theorem aal_D' : ∀ i, i < 201 → ((zsh 107).2.2.1.getD i (0, 0)).2 = 108 + i := by decide +kernel
theorem aal_D {i nx : Nat} {lo : zL} {st : List Value} {h : zH} (hi : i < 201) : oAald nx lo (.int (nI i) :: .ref 107 :: st) h = zgo nx lo (.ref (108 + i) :: st) h := aal rfl (by decide +kernel) (by decide) hi (by decide) (aal_D' i hi)
theorem ald_n309 {i nx : Nat} {lo : zL} {st : List Value} {h : zH} (hi : i < 7) : oIald nx lo (.int (nI i) :: .ref 309 :: st) h = zgo nx lo (.int ((zsh 309).2.2.2.getD i 0) :: st) h := by
  have h4 := nI_rng hi (show 7 < 2 ^ 31 by decide)
  simp only [oIald, show (zsh 309).1 = 3 from rfl, show (zsh 309).2.2.2.length = 7 from rfl, h4, and_self, if_true, nI_clamp (show i < 2 ^ 31 by omega), show ¬ ((3 : Nat) = 0 ∧ 309 < 309) by decide, if_false]
theorem ald_n310 {i nx : Nat} {lo : zL} {st : List Value} {h : zH} (hi : i < 8) : oIald nx lo (.int (nI i) :: .ref 310 :: st) h = zgo nx lo (.int ((zsh 310).2.2.2.getD i 0) :: st) h := by
  have h4 := nI_rng hi (show 8 < 2 ^ 31 by decide)
  simp only [oIald, show (zsh 310).1 = 3 from rfl, show (zsh 310).2.2.2.length = 8 from rfl, h4, and_self, if_true, nI_clamp (show i < 2 ^ 31 by omega), show ¬ ((3 : Nat) = 0 ∧ 310 < 309) by decide, if_false]
theorem ald_n311 {i nx : Nat} {lo : zL} {st : List Value} {h : zH} (hi : i < 3) : oIald nx lo (.int (nI i) :: .ref 311 :: st) h = zgo nx lo (.int ((zsh 311).2.2.2.getD i 0) :: st) h := by
  have h4 := nI_rng hi (show 3 < 2 ^ 31 by decide)
  simp only [oIald, show (zsh 311).1 = 3 from rfl, show (zsh 311).2.2.2.length = 3 from rfl, h4, and_self, if_true, nI_clamp (show i < 2 ^ 31 by omega), show ¬ ((3 : Nat) = 0 ∧ 311 < 309) by decide, if_false]
theorem ald_n312 {i nx : Nat} {lo : zL} {st : List Value} {h : zH} (hi : i < 28) : oIald nx lo (.int (nI i) :: .ref 312 :: st) h = zgo nx lo (.int ((zsh 312).2.2.2.getD i 0) :: st) h := by
  have h4 := nI_rng hi (show 28 < 2 ^ 31 by decide)
  simp only [oIald, show (zsh 312).1 = 3 from rfl, show (zsh 312).2.2.2.length = 28 from rfl, h4, and_self, if_true, nI_clamp (show i < 2 ^ 31 by omega), show ¬ ((3 : Nat) = 0 ∧ 312 < 309) by decide, if_false]
