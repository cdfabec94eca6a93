/-! ===== a coin's week ===== -/
def zcoin (x : Int32) : Int32 := x * nI 1103515245 + nI 12345
def zshr (x : Int32) : Int32 := (x.toUInt32 >>> ((nI 8).toUInt32 &&& Int32.toUInt32 31)).toInt32
theorem zshr_n (x : Int32) : ∃ m, m < 2 ^ 24 ∧ zshr x = nI m := by
  refine ⟨x.toUInt32.toNat / 2 ^ 8, ?_, ?_⟩
  · have := x.toUInt32.toNat_lt
    omega
  · unfold zshr
    have e : ((nI 8).toUInt32 &&& Int32.toUInt32 31) = 8 := by decide
    rw [e]
    have t : UInt32.ofNat (x.toUInt32.toNat / 2 ^ 8) = x.toUInt32 >>> 8 := by
      apply UInt32.toNat_inj.mp
      have := x.toUInt32.toNat_lt
      rw [UInt32.toNat_shiftRight, UInt32.toNat_ofNat, Nat.shiftRight_eq_div_pow]
      exact Nat.mod_eq_of_lt (by omega)
    rw [← t]
    rfl
theorem zrem_n {m N : Nat} (hm : m < 2 ^ 24) (h0 : 0 < N) (hN : N ≤ 8) : nI m % nI N = nI (m % N) := by
  have t : ∀ n, n < 2 ^ 31 → (nI n).toInt = (n : Int) := fun n hn => by
    unfold nI
    exact Int32.toInt_ofNat_of_lt hn
  apply Int32.toInt_inj.mp
  rw [Int32.toInt_mod, t m (by omega), t N (by omega), t _ (by have := Nat.mod_lt m h0; omega)]
  rfl
def zcw (s : Nat → Int32) : Nat → Int32 :=
  zends (zud (zud s 5 (zcoin (s 5))) 1 (if zmayv s = nI 0 then s 1 else zgf s (zshr (zcoin (s 5)) % s 0)))
