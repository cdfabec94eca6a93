/-! ===== a piece of a row copied ===== -/
theorem cpy {a b A B i j n nx : Nat} {lo : zL} {h : zH} (za : zar a A) (zb : zar b B) (h1 : i + n ≤ A) (h2 : j + n ≤ B) (hA : A < 2 ^ 31) (hB : B < 2 ^ 31) : oCpy nx lo [.int (nI n), .int (nI j), .ref b, .int (nI i), .ref a] h = zgo nx lo [] (zcp h a i b j n) := by
  obtain ⟨a1, a2, a3⟩ := za
  obtain ⟨b1, b2, b3⟩ := zb
  have k : ((zsh a).1 = 0 ∧ a < 309 ∧ (zsh b).1 = 0 ∧ b < 309 ∧ zok4 [] = true) ∧ 0 ≤ (nI n).toInt ∧ 0 ≤ (nI i).toInt ∧ 0 ≤ (nI j).toInt ∧ (nI i).toInt + (nI n).toInt ≤ ((zsh a).2.1 : Int) ∧ (nI j).toInt + (nI n).toInt ≤ ((zsh b).2.1 : Int) := by
    rw [nI_toInt (by omega), nI_toInt (by omega), nI_toInt (by omega), a2, b2]
    exact ⟨⟨a1, a3, b1, b3, rfl⟩, by omega, by omega, by omega, by omega, by omega⟩
  show (if _ then _ else none) = _
  rw [if_pos k, nI_clamp (by omega), nI_clamp (by omega), nI_clamp (by omega)]
theorem zcp_ne {h : zH} {a i b j n x : Nat} (e : x ≠ b) : zcp h a i b j n x = h x := by
  funext y
  exact if_neg e
theorem zcp_at {h : zH} {a i b j n y : Nat} (h1 : j ≤ y) (h2 : y < j + n) : zcp h a i b j n b y = h a (i + (y - j)) := by
  show (if b = b then va_cpy (h a) (h b) i j n y else h b y) = _
  rw [if_pos rfl]
  exact if_pos ⟨h1, h2⟩
theorem zcp_out {h : zH} {a i b j n y : Nat} (e : ¬ (j ≤ y ∧ y < j + n)) : zcp h a i b j n b y = h b y := by
  show (if b = b then va_cpy (h a) (h b) i j n y else h b y) = _
  rw [if_pos rfl]
  exact if_neg e
