/-! ===== voices: what the class says ===== -/
/-! what is said -/
def zvC (M P : Nat) : Nat → Int32 → Int32
  | 0, x => x + nI P
  | 1, x => x + nI P - nI 4
  | 2, x => x + nI P - nI 4
  | 3, x => (x + nI P - nI 4) ^^^ nI P
  | 4, _ => nI 8
  | 5, x => x + nI P
  | _, x => x + nI P - nI 4 + nI M
def ztC : Nat → List Nat
  | 0 => [10]
  | 1 => [20, 10]
  | 2 => [20, 10]
  | 3 => [41, 20, 10]
  | 4 => [50]
  | 5 => [10]
  | _ => [70, 20, 10]
def zvG (K M P : Nat) (k : Nat) (x : Int32) : Int32 := if k = 2 then nI 0 - zvC M P K x * nI 2 else if k = 5 then zvC M P K (x + nI 1) * nI 2 else zvC M P K x * nI 2
def ztG (K k : Nat) : List Nat := if k = 2 then 30 :: 11 :: ztC K else if k = 5 then 60 :: 11 :: ztC K else 11 :: ztC K
def zvR (K M P : Nat) (k : Nat) (x : Int32) : Int32 := if k = 3 then zvG K M P K (x / nI 2) - nI M else if k = 5 then (zvG K M P K x - nI M) * nI 3 else zvG K M P K x - nI M
def ztR (K k : Nat) : List Nat := if k = 3 then 40 :: 12 :: ztG K K else if k = 5 then 61 :: 12 :: ztG K K else 12 :: ztG K K
def zvP (K M P : Nat) (k : Nat) (x : Int32) : Int32 := if k = 0 ∨ k = 5 then x / (nI M - nI P) else if k = 6 then x / (nI M - nI P) + zvG K M P K (nI 1) - zvR K M P K (nI 0) else x / (nI M - nI P) + zvG K M P K (nI 1)
def ztP (K k : Nat) : List Nat := if k = 0 ∨ k = 5 then [13] else if k = 6 then 71 :: (21 :: ([13] ++ ztG K K) ++ ztR K K) else 21 :: ([13] ++ ztG K K)
def ztPp (k : Nat) : List Nat := if k = 0 ∨ k = 5 then [13] else if k = 6 then [71, 21, 13] else [21, 13]
section O86b
variable (d : Nat) {K M P : Nat}
theorem fC0 {x : Int32} {dep : Nat} (hd : dep < 30) : zSaid (d + 3) 95 [.ref 79, .int (nI 0), .int (nI 0), .int x, .int (nI dep)] K M P (x + nI P) [10] := s95 (by decide) (by decide) (by omega) (s97_10 d)
theorem fC1 {x : Int32} {dep : Nat} (hd : dep < 29) : zSaid (d + 6) 95 [.ref 79, .int (nI 1), .int (nI 0), .int x, .int (nI dep)] K M P (x + nI P - nI 4) [20, 10] := s95 (by decide) (by decide) (by omega) (s97_20 (d + 3) (s94 (by decide) (by decide) (fC0 d (by omega))))
theorem fC {k : Nat} {x : Int32} {dep : Nat} (hk : k < 7) (hd : dep < 28) : zSaid (d + 9) 95 [.ref 79, .int (nI k), .int (nI 0), .int x, .int (nI dep)] K M P (zvC M P k x) (ztC k) := by
  obtain rfl | rfl | rfl | rfl | rfl | rfl | rfl : k = 0 ∨ k = 1 ∨ k = 2 ∨ k = 3 ∨ k = 4 ∨ k = 5 ∨ k = 6 := by omega
  · exact fC0 (d + 6) (by omega)
  · exact fC1 (d + 3) (by omega)
  · exact s95 (by decide) (by decide) (by omega) (s97_20 (d + 6) (s94 (by decide) (by decide) (fC0 (d + 3) (by omega))))
  · exact s95 (by decide) (by decide) (by omega) (s97_41 (d + 6) (s94 (by decide) (by decide) (fC1 d (by omega))))
  · exact s95 (by decide) (by decide) (by omega) (s97_50 (d + 6))
  · exact s95 (by decide) (by decide) (by omega) (s97_10 (d + 6))
  · exact s95 (by decide) (by decide) (by omega) (s97_70 (d + 6) (s94 (by decide) (by decide) (fC1 d (by omega))))
theorem fG0 {k : Nat} {x : Int32} {dep : Nat} (hK : K < 7) (hk : k < 7) (k2 : k ≠ 2) (k5 : k ≠ 5) (hd : dep < 27) : zSaid (d + 12) 95 [.ref 79, .int (nI k), .int (nI 1), .int x, .int (nI dep)] K M P (zvC M P K x * nI 2) (11 :: ztC K) := by
  have w := s97_11 (d + 9) (x := x) (s96 (fC d (K := K) (M := M) (P := P) hK (show dep + 1 < 28 by omega)))
  obtain rfl | rfl | rfl | rfl | rfl : k = 0 ∨ k = 1 ∨ k = 3 ∨ k = 4 ∨ k = 6 := by omega
  all_goals exact s95 (by decide) (by decide) (by omega) w
theorem fG {k : Nat} {x : Int32} {dep : Nat} (hK : K < 7) (hk : k < 7) (hd : dep < 26) : zSaid (d + 15) 95 [.ref 79, .int (nI k), .int (nI 1), .int x, .int (nI dep)] K M P (zvG K M P k x) (ztG K k) := by
  unfold zvG ztG
  by_cases k2 : k = 2
  · subst k2
    rw [if_pos rfl, if_pos rfl]
    exact s95 (by decide) (by decide) (by omega) (s97_30 (d + 12) (s94 (by decide) (by decide) (fG0 d (k := 1) hK (by decide) (by decide) (by decide) (by omega))))
  · rw [if_neg k2, if_neg k2]
    by_cases k5 : k = 5
    · subst k5
      rw [if_pos rfl, if_pos rfl]
      exact s95 (by decide) (by decide) (by omega) (s97_60 (d + 12) (s94 (by decide) (by decide) (fG0 d (k := 0) hK (by decide) (by decide) (by decide) (by omega))))
    · rw [if_neg k5, if_neg k5]
      exact fG0 (d + 3) hK hk k2 k5 (by omega)
theorem fR0 {k : Nat} {x : Int32} {dep : Nat} (hK : K < 7) (hk : k < 7) (k3 : k ≠ 3) (k5 : k ≠ 5) (hd : dep < 25) : zSaid (d + 18) 95 [.ref 79, .int (nI k), .int (nI 2), .int x, .int (nI dep)] K M P (zvG K M P K x - nI M) (12 :: ztG K K) := by
  have w := s97_12 (d + 15) (x := x) (s96 (fG d (K := K) (M := M) (P := P) hK hK (show dep + 1 < 26 by omega)))
  obtain rfl | rfl | rfl | rfl | rfl : k = 0 ∨ k = 1 ∨ k = 2 ∨ k = 4 ∨ k = 6 := by omega
  all_goals exact s95 (by decide) (by decide) (by omega) w
theorem fR {k : Nat} {x : Int32} {dep : Nat} (hK : K < 7) (hk : k < 7) (hd : dep < 24) : zSaid (d + 21) 95 [.ref 79, .int (nI k), .int (nI 2), .int x, .int (nI dep)] K M P (zvR K M P k x) (ztR K k) := by
  unfold zvR ztR
  by_cases k3 : k = 3
  · subst k3
    rw [if_pos rfl, if_pos rfl]
    exact s95 (by decide) (by decide) (by omega) (s97_40 (d + 18) (s94 (by decide) (by decide) (fR0 d (k := 1) hK (by decide) (by decide) (by decide) (by omega))))
  · rw [if_neg k3, if_neg k3]
    by_cases k5 : k = 5
    · subst k5
      rw [if_pos rfl, if_pos rfl]
      exact s95 (by decide) (by decide) (by omega) (s97_61 (d + 18) (s94 (by decide) (by decide) (fR0 d (k := 0) hK (by decide) (by decide) (by decide) (by omega))))
    · rw [if_neg k5, if_neg k5]
      exact fR0 (d + 3) hK hk k3 k5 (by omega)
theorem fP0 {x : Int32} {dep : Nat} (hM : M < 1000) (hP : P < 1000) (ne : M ≠ P) (hd : dep < 30) : zSaid (d + 3) 95 [.ref 79, .int (nI 0), .int (nI 3), .int x, .int (nI dep)] K M P (x / (nI M - nI P)) [13] := s95 (by decide) (by decide) (by omega) (s97_13 d hM hP ne)
theorem fP1 {k : Nat} {x : Int32} {dep : Nat} (hK : K < 7) (hM : M < 1000) (hP : P < 1000) (ne : M ≠ P) (hk : 1 ≤ k) (hk4 : k ≤ 4) (hd : dep < 23) : zSaid (d + 18) 95 [.ref 79, .int (nI k), .int (nI 3), .int x, .int (nI dep)] K M P (x / (nI M - nI P) + zvG K M P K (nI 1)) (21 :: ([13] ++ ztG K K)) := by
  have w := s97_21 (d + 15) (x := x) (s94 (by decide) (by decide) (fP0 (d + 12) (K := K) (x := x) hM hP ne (show dep + 1 < 30 by omega))) (s96 (fG d (M := M) (P := P) (x := nI 1) hK hK (show dep + 1 < 26 by omega)))
  obtain rfl | rfl | rfl | rfl : k = 1 ∨ k = 2 ∨ k = 3 ∨ k = 4 := by omega
  all_goals exact s95 (by decide) (by decide) (by omega) w
theorem fP {k : Nat} {x : Int32} {dep : Nat} (hK : K < 7) (hM : M < 1000) (hP : P < 1000) (ne : M ≠ P) (hk : k < 7) (hd : dep < 22) : zSaid (d + 24) 95 [.ref 79, .int (nI k), .int (nI 3), .int x, .int (nI dep)] K M P (zvP K M P k x) (ztP K k) := by
  unfold zvP ztP
  by_cases k0 : k = 0 ∨ k = 5
  · rw [if_pos k0, if_pos k0]
    rcases k0 with rfl | rfl
    · exact fP0 (d + 21) hM hP ne (by omega)
    · exact s95 (by decide) (by decide) (by omega) (s97_13 (d + 21) hM hP ne)
  · rw [if_neg k0, if_neg k0]
    by_cases k6 : k = 6
    · subst k6
      rw [if_pos rfl, if_pos rfl]
      exact s95 (by decide) (by decide) (by omega) (s97_71 (d + 21) (s94 (by decide) (by decide) (fP1 (d + 3) (k := 1) hK hM hP ne (by decide) (by decide) (by omega))) (s96 (fR d (x := nI 0) hK hK (by omega))))
    · rw [if_neg k6, if_neg k6]
      exact fP1 (d + 6) hK hM hP ne (by omega) (by omega) (by omega)
theorem fQ0 {x : Int32} {dep : Nat} (hd : dep < 30) : zPart (d + 3) 95 [.ref 79, .int (nI 0), .int (nI 3), .int x, .int (nI dep)] K P P [13] := p95 (by decide) (by decide) (by omega) (p97_13 d)
theorem fQ1 {k : Nat} {x : Int32} {dep : Nat} (hk : 1 ≤ k) (hk4 : k ≤ 4) (hd : dep < 23) : zPart (d + 6) 95 [.ref 79, .int (nI k), .int (nI 3), .int x, .int (nI dep)] K P P [21, 13] := by
  have w := p97_21 (d + 2) (x := x) (p94 (by decide) (by decide) (fQ0 d (K := K) (P := P) (x := x) (show dep + 1 < 30 by omega)))
  obtain rfl | rfl | rfl | rfl : k = 1 ∨ k = 2 ∨ k = 3 ∨ k = 4 := by omega
  all_goals exact p95 (by decide) (by decide) (by omega) w
theorem fQ {k : Nat} {x : Int32} {dep : Nat} (hk : k < 7) (hd : dep < 22) : zPart (d + 24) 95 [.ref 79, .int (nI k), .int (nI 3), .int x, .int (nI dep)] K P P (ztPp k) := by
  unfold ztPp
  by_cases k0 : k = 0 ∨ k = 5
  · rw [if_pos k0]
    rcases k0 with rfl | rfl
    · exact fQ0 (d + 21) (by omega)
    · exact p95 (by decide) (by decide) (by omega) (p97_13 (d + 21))
  · rw [if_neg k0]
    by_cases k6 : k = 6
    · subst k6
      rw [if_pos rfl]
      exact p95 (by decide) (by decide) (by omega) (p97_71 (d + 20) (p94 (by decide) (by decide) (fQ1 (d + 15) (k := 1) (by decide) (by decide) (by omega))))
    · rw [if_neg k6]
      exact fQ1 (d + 18) (by omega) (by omega) (by omega)
end O86b
