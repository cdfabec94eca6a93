/-! ===== one row an instruction ===== -/
theorem q49_0 (d : Nat) (x : Nat) (l : zL) (st : List Value) (h : zH) : zXf zT znl d 49 0 (.ref x :: l) st h = zXf zT znl d 49 1 (.ref x :: l) (.ref x :: st) h := (zXq (op := oAl 0 1) zT_49 rfl).trans rfl
theorem q49_1 (d : Nat) (a0 : Value) (x : Nat) (l : zL) (st : List Value) (h : zH) : zXf zT znl d 49 1 (a0 :: .ref x :: l) st h = zXf zT znl d 49 2 (a0 :: .ref x :: l) (.ref x :: st) h := (zXq (op := oAl 1 2) zT_49 rfl).trans rfl
theorem q49_2 (d : Nat) (lo : zL) (st : List Value) (h : zH) : zXf zT znl d 49 2 lo st h = zB zT znl d 49 (oGf 5 9 5 lo st h) := zXq (op := oGf 5 9 5) zT_49 rfl
theorem q49_5 (d : Nat) (lo : zL) (st : List Value) (h : zH) : zXf zT znl d 49 5 lo st h = zB zT znl d 49 (oPf 5 9 8 lo st h) := zXq (op := oPf 5 9 8) zT_49 rfl
theorem q49_8 (d : Nat) (x : Nat) (l : zL) (st : List Value) (h : zH) : zXf zT znl d 49 8 (.ref x :: l) st h = zXf zT znl d 49 9 (.ref x :: l) (.ref x :: st) h := (zXq (op := oAl 0 9) zT_49 rfl).trans rfl
theorem q49_9 (d : Nat) (a0 : Value) (x : Nat) (l : zL) (st : List Value) (h : zH) : zXf zT znl d 49 9 (a0 :: .ref x :: l) st h = zXf zT znl d 49 10 (a0 :: .ref x :: l) (.ref x :: st) h := (zXq (op := oAl 1 10) zT_49 rfl).trans rfl
theorem q49_10 (d : Nat) (lo : zL) (st : List Value) (h : zH) : zXf zT znl d 49 10 lo st h = zB zT znl d 49 (oGf 5 10 13 lo st h) := zXq (op := oGf 5 10 13) zT_49 rfl
theorem q49_13 (d : Nat) (lo : zL) (st : List Value) (h : zH) : zXf zT znl d 49 13 lo st h = zB zT znl d 49 (oPf 5 10 16 lo st h) := zXq (op := oPf 5 10 16) zT_49 rfl
theorem q49_16 (d : Nat) (x : Nat) (l : zL) (st : List Value) (h : zH) : zXf zT znl d 49 16 (.ref x :: l) st h = zXf zT znl d 49 17 (.ref x :: l) (.ref x :: st) h := (zXq (op := oAl 0 17) zT_49 rfl).trans rfl
theorem q49_17 (d : Nat) (a0 : Value) (x : Nat) (l : zL) (st : List Value) (h : zH) : zXf zT znl d 49 17 (a0 :: .ref x :: l) st h = zXf zT znl d 49 18 (a0 :: .ref x :: l) (.ref x :: st) h := (zXq (op := oAl 1 18) zT_49 rfl).trans rfl
theorem q49_18 (d : Nat) (lo : zL) (st : List Value) (h : zH) : zXf zT znl d 49 18 lo st h = zB zT znl d 49 (oGf 5 11 21 lo st h) := zXq (op := oGf 5 11 21) zT_49 rfl
theorem q49_21 (d : Nat) (lo : zL) (st : List Value) (h : zH) : zXf zT znl d 49 21 lo st h = zB zT znl d 49 (oPf 5 11 24 lo st h) := zXq (op := oPf 5 11 24) zT_49 rfl
theorem q49_24 (d : Nat) (x : Nat) (l : zL) (st : List Value) (h : zH) : zXf zT znl d 49 24 (.ref x :: l) st h = zXf zT znl d 49 25 (.ref x :: l) (.ref x :: st) h := (zXq (op := oAl 0 25) zT_49 rfl).trans rfl
theorem q49_25 (d : Nat) (a0 : Value) (x : Nat) (l : zL) (st : List Value) (h : zH) : zXf zT znl d 49 25 (a0 :: .ref x :: l) st h = zXf zT znl d 49 26 (a0 :: .ref x :: l) (.ref x :: st) h := (zXq (op := oAl 1 26) zT_49 rfl).trans rfl
theorem q49_26 (d : Nat) (lo : zL) (st : List Value) (h : zH) : zXf zT znl d 49 26 lo st h = zB zT znl d 49 (oGf 5 12 29 lo st h) := zXq (op := oGf 5 12 29) zT_49 rfl
theorem q49_29 (d : Nat) (lo : zL) (st : List Value) (h : zH) : zXf zT znl d 49 29 lo st h = zB zT znl d 49 (oPf 5 12 32 lo st h) := zXq (op := oPf 5 12 32) zT_49 rfl
theorem q49_32 (d : Nat) (lo : zL) (st : List Value) (h : zH) : zXf zT znl d 49 32 lo st h = zXf zT znl d 49 33 lo (.int (nI 0) :: st) h := (zXq (op := oPush 0 33) zT_49 rfl).trans rfl
theorem q49_33 (d : Nat) (a0 : Value) (a1 : Value) (a2 : Value) (x : Int32) (l : zL) (st : List Value) (h : zH) (hz : zokv a1 = true) : zXf zT znl d 49 33 (a0 :: a1 :: a2 :: l) (.int x :: st) h = zXf zT znl d 49 34 (a0 :: a1 :: .int x :: l) st h := by
  refine (zXq (op := oIs 2 34) zT_49 rfl).trans ?_
  simp only [oIs, zok, hz, Bool.and_self, if_true, List.set_cons_succ, List.set_cons_zero, zB_go]
theorem q49_34 (d : Nat) (a0 : Value) (a1 : Value) (x : Int32) (l : zL) (st : List Value) (h : zH) : zXf zT znl d 49 34 (a0 :: a1 :: .int x :: l) st h = zXf zT znl d 49 35 (a0 :: a1 :: .int x :: l) (.int x :: st) h := (zXq (op := oIl 2 35) zT_49 rfl).trans rfl
theorem q49_35 (d : Nat) (lo : zL) (st : List Value) (h : zH) : zXf zT znl d 49 35 lo st h = zXf zT znl d 49 37 lo (.int (nI 8) :: st) h := (zXq (op := oPush 8 37) zT_49 rfl).trans rfl
theorem q49_37 (d : Nat) (lo : zL) (x y : Int32) (st : List Value) (h : zH) : zXf zT znl d 49 37 lo (.int y :: .int x :: st) h = if y ≤ x then zXf zT znl d 49 65 lo st h else zXf zT znl d 49 40 lo st h := (zXq (op := oCGe 65 40) zT_49 rfl).trans (zB_if _ _)
theorem q49_40 (d : Nat) (a0 : Value) (x : Nat) (l : zL) (st : List Value) (h : zH) : zXf zT znl d 49 40 (a0 :: .ref x :: l) st h = zXf zT znl d 49 41 (a0 :: .ref x :: l) (.ref x :: st) h := (zXq (op := oAl 1 41) zT_49 rfl).trans rfl
theorem q49_41 (d : Nat) (lo : zL) (st : List Value) (h : zH) : zXf zT znl d 49 41 lo st h = zB zT znl d 49 (oGf 5 2 44 lo st h) := zXq (op := oGf 5 2 44) zT_49 rfl
theorem q49_44 (d : Nat) (a0 : Value) (a1 : Value) (x : Int32) (l : zL) (st : List Value) (h : zH) : zXf zT znl d 49 44 (a0 :: a1 :: .int x :: l) st h = zXf zT znl d 49 45 (a0 :: a1 :: .int x :: l) (.int x :: st) h := (zXq (op := oIl 2 45) zT_49 rfl).trans rfl
theorem q49_45 (d : Nat) (lo : zL) (st : List Value) (h : zH) : zXf zT znl d 49 45 lo st h = zB zT znl d 49 (oAald 46 lo st h) := zXq (op := oAald 46) zT_49 rfl
theorem q49_46 (d : Nat) (lo : zL) (st : List Value) (h : zH) : zXf zT znl d 49 46 lo st h = zXf zT znl d 49 47 lo (.int (nI 0) :: st) h := (zXq (op := oPush 0 47) zT_49 rfl).trans rfl
theorem q49_47 (d : Nat) (x : Nat) (l : zL) (st : List Value) (h : zH) : zXf zT znl d 49 47 (.ref x :: l) st h = zXf zT znl d 49 48 (.ref x :: l) (.ref x :: st) h := (zXq (op := oAl 0 48) zT_49 rfl).trans rfl
theorem q49_48 (d : Nat) (lo : zL) (st : List Value) (h : zH) : zXf zT znl d 49 48 lo st h = zB zT znl d 49 (oGf 5 2 51 lo st h) := zXq (op := oGf 5 2 51) zT_49 rfl
theorem q49_51 (d : Nat) (a0 : Value) (a1 : Value) (x : Int32) (l : zL) (st : List Value) (h : zH) : zXf zT znl d 49 51 (a0 :: a1 :: .int x :: l) st h = zXf zT znl d 49 52 (a0 :: a1 :: .int x :: l) (.int x :: st) h := (zXq (op := oIl 2 52) zT_49 rfl).trans rfl
theorem q49_52 (d : Nat) (lo : zL) (st : List Value) (h : zH) : zXf zT znl d 49 52 lo st h = zB zT znl d 49 (oAald 53 lo st h) := zXq (op := oAald 53) zT_49 rfl
theorem q49_53 (d : Nat) (lo : zL) (st : List Value) (h : zH) : zXf zT znl d 49 53 lo st h = zXf zT znl d 49 54 lo (.int (nI 0) :: st) h := (zXq (op := oPush 0 54) zT_49 rfl).trans rfl
theorem q49_54 (d : Nat) (lo : zL) (st : List Value) (h : zH) : zXf zT znl d 49 54 lo st h = zXf zT znl d 49 56 lo (.int (nI 8) :: st) h := (zXq (op := oPush 8 56) zT_49 rfl).trans rfl
theorem q49_56 (d : Nat) (lo : zL) (st : List Value) (h : zH) : zXf zT znl d 49 56 lo st h = zB zT znl d 49 (oCpy 59 lo st h) := zXq (op := oCpy 59) zT_49 rfl
theorem q49_59 (d : Nat) (a0 : Value) (a1 : Value) (x : Int32) (l : zL) (st : List Value) (h : zH) (hz : zokv a1 = true) : zXf zT znl d 49 59 (a0 :: a1 :: .int x :: l) st h = zXf zT znl d 49 62 (a0 :: a1 :: .int (x + nI 1) :: l) st h := by
  refine (zXq (op := oInc 2 1 62) zT_49 rfl).trans ?_
  simp only [oInc, List.getElem?_cons_succ, List.getElem?_cons_zero, zok, hz, Bool.and_self, if_true, List.set_cons_succ, List.set_cons_zero, zB_go]
  try rfl
theorem q49_62 (d : Nat) (lo : zL) (st : List Value) (h : zH) : zXf zT znl d 49 62 lo st h = zXf zT znl d 49 34 lo st h := (zXq (op := oGoto 34) zT_49 rfl).trans rfl
theorem q49_65 (d : Nat) (lo : zL) (h : zH) : zXf zT znl d 49 65 lo [] h = some (none, h) := (zXq (op := oRet) zT_49 rfl).trans rfl
theorem q50_0 (d : Nat) (a0 : Value) (x : Nat) (l : zL) (st : List Value) (h : zH) : zXf zT znl d 50 0 (a0 :: .ref x :: l) st h = zXf zT znl d 50 1 (a0 :: .ref x :: l) (.ref x :: st) h := (zXq (op := oAl 1 1) zT_50 rfl).trans rfl
theorem q50_1 (d : Nat) (lo : zL) (st : List Value) (h : zH) : zXf zT znl d 50 1 lo st h = zB zT znl d 50 (oGf 5 0 4 lo st h) := zXq (op := oGf 5 0 4) zT_50 rfl
theorem q50_4 (d : Nat) (lo : zL) (st : List Value) (h : zH) : zXf zT znl d 50 4 lo st h = zXf zT znl d 50 5 lo (.int (nI 0) :: st) h := (zXq (op := oPush 0 5) zT_50 rfl).trans rfl
theorem q50_5 (d : Nat) (x : Nat) (l : zL) (st : List Value) (h : zH) : zXf zT znl d 50 5 (.ref x :: l) st h = zXf zT znl d 50 6 (.ref x :: l) (.ref x :: st) h := (zXq (op := oAl 0 6) zT_50 rfl).trans rfl
theorem q50_6 (d : Nat) (lo : zL) (st : List Value) (h : zH) : zXf zT znl d 50 6 lo st h = zB zT znl d 50 (oGf 5 0 9 lo st h) := zXq (op := oGf 5 0 9) zT_50 rfl
theorem q50_9 (d : Nat) (lo : zL) (st : List Value) (h : zH) : zXf zT znl d 50 9 lo st h = zXf zT znl d 50 10 lo (.int (nI 0) :: st) h := (zXq (op := oPush 0 10) zT_50 rfl).trans rfl
theorem q50_10 (d : Nat) (lo : zL) (st : List Value) (h : zH) : zXf zT znl d 50 10 lo st h = zXf zT znl d 50 12 lo (.int (nI 80) :: st) h := (zXq (op := oPush 80 12) zT_50 rfl).trans rfl
theorem q50_12 (d : Nat) (lo : zL) (st : List Value) (h : zH) : zXf zT znl d 50 12 lo st h = zB zT znl d 50 (oCpy 15 lo st h) := zXq (op := oCpy 15) zT_50 rfl
theorem q50_15 (d : Nat) (a0 : Value) (x : Nat) (l : zL) (st : List Value) (h : zH) : zXf zT znl d 50 15 (a0 :: .ref x :: l) st h = zXf zT znl d 50 16 (a0 :: .ref x :: l) (.ref x :: st) h := (zXq (op := oAl 1 16) zT_50 rfl).trans rfl
theorem q50_16 (d : Nat) (lo : zL) (st : List Value) (h : zH) : zXf zT znl d 50 16 lo st h = zB zT znl d 50 (oGf 5 1 19 lo st h) := zXq (op := oGf 5 1 19) zT_50 rfl
theorem q50_19 (d : Nat) (lo : zL) (st : List Value) (h : zH) : zXf zT znl d 50 19 lo st h = zXf zT znl d 50 20 lo (.int (nI 0) :: st) h := (zXq (op := oPush 0 20) zT_50 rfl).trans rfl
theorem q50_20 (d : Nat) (x : Nat) (l : zL) (st : List Value) (h : zH) : zXf zT znl d 50 20 (.ref x :: l) st h = zXf zT znl d 50 21 (.ref x :: l) (.ref x :: st) h := (zXq (op := oAl 0 21) zT_50 rfl).trans rfl
theorem q50_21 (d : Nat) (lo : zL) (st : List Value) (h : zH) : zXf zT znl d 50 21 lo st h = zB zT znl d 50 (oGf 5 1 24 lo st h) := zXq (op := oGf 5 1 24) zT_50 rfl
theorem q50_24 (d : Nat) (lo : zL) (st : List Value) (h : zH) : zXf zT znl d 50 24 lo st h = zXf zT znl d 50 25 lo (.int (nI 0) :: st) h := (zXq (op := oPush 0 25) zT_50 rfl).trans rfl
theorem q50_25 (d : Nat) (x : Nat) (l : zL) (st : List Value) (h : zH) : zXf zT znl d 50 25 (.ref x :: l) st h = zXf zT znl d 50 26 (.ref x :: l) (.ref x :: st) h := (zXq (op := oAl 0 26) zT_50 rfl).trans rfl
theorem q50_26 (d : Nat) (lo : zL) (st : List Value) (h : zH) : zXf zT znl d 50 26 lo st h = zB zT znl d 50 (oGf 5 1 29 lo st h) := zXq (op := oGf 5 1 29) zT_50 rfl
theorem q50_29 (d : Nat) (lo : zL) (st : List Value) (h : zH) : zXf zT znl d 50 29 lo st h = zB zT znl d 50 (oAlen 30 lo st h) := zXq (op := oAlen 30) zT_50 rfl
theorem q50_30 (d : Nat) (lo : zL) (st : List Value) (h : zH) : zXf zT znl d 50 30 lo st h = zB zT znl d 50 (oCpy 33 lo st h) := zXq (op := oCpy 33) zT_50 rfl
theorem q50_33 (d : Nat) (x : Nat) (l : zL) (st : List Value) (h : zH) : zXf zT znl d 50 33 (.ref x :: l) st h = zXf zT znl d 50 34 (.ref x :: l) (.ref x :: st) h := (zXq (op := oAl 0 34) zT_50 rfl).trans rfl
theorem q50_34 (d : Nat) (lo : zL) (st : List Value) (h : zH) : zXf zT znl d 50 34 lo st h = zB zT znl d 50 (oGf 5 3 37 lo st h) := zXq (op := oGf 5 3 37) zT_50 rfl
theorem q50_37 (d : Nat) (a0 : Value) (x : Nat) (l : zL) (st : List Value) (h : zH) : zXf zT znl d 50 37 (a0 :: .ref x :: l) st h = zXf zT znl d 50 38 (a0 :: .ref x :: l) (.ref x :: st) h := (zXq (op := oAl 1 38) zT_50 rfl).trans rfl
theorem q50_38 (d : Nat) (lo : zL) (st : List Value) (h : zH) : zXf zT znl d 50 38 lo st h = zB zT znl d 50 (oGf 5 3 41 lo st h) := zXq (op := oGf 5 3 41) zT_50 rfl
theorem q50_41 (d : Nat) (lo : zL) (x0 x1 : Value) (h : zH) (hr : zrc 4 [x0, x1] = true) : zXf zT znl d 50 41 lo [x1, x0] h = (zCf zT znl d 80 [x0, x1] h).bind fun o => zXf zT znl d 50 44 lo (o.1.toList ++ []) o.2 := (zXq (op := oC2 4 80 44) zT_50 rfl).trans (zB_cl rfl hr)
theorem q50_44 (d : Nat) (x : Nat) (l : zL) (st : List Value) (h : zH) : zXf zT znl d 50 44 (.ref x :: l) st h = zXf zT znl d 50 45 (.ref x :: l) (.ref x :: st) h := (zXq (op := oAl 0 45) zT_50 rfl).trans rfl
theorem q50_45 (d : Nat) (lo : zL) (st : List Value) (h : zH) : zXf zT znl d 50 45 lo st h = zB zT znl d 50 (oGf 5 4 48 lo st h) := zXq (op := oGf 5 4 48) zT_50 rfl
theorem q50_48 (d : Nat) (a0 : Value) (x : Nat) (l : zL) (st : List Value) (h : zH) : zXf zT znl d 50 48 (a0 :: .ref x :: l) st h = zXf zT znl d 50 49 (a0 :: .ref x :: l) (.ref x :: st) h := (zXq (op := oAl 1 49) zT_50 rfl).trans rfl
theorem q50_49 (d : Nat) (lo : zL) (st : List Value) (h : zH) : zXf zT znl d 50 49 lo st h = zB zT znl d 50 (oGf 5 4 52 lo st h) := zXq (op := oGf 5 4 52) zT_50 rfl
theorem q50_52 (d : Nat) (lo : zL) (x0 x1 : Value) (h : zH) (hr : zrc 4 [x0, x1] = true) : zXf zT znl d 50 52 lo [x1, x0] h = (zCf zT znl d 80 [x0, x1] h).bind fun o => zXf zT znl d 50 55 lo (o.1.toList ++ []) o.2 := (zXq (op := oC2 4 80 55) zT_50 rfl).trans (zB_cl rfl hr)
theorem q50_55 (d : Nat) (a0 : Value) (x : Nat) (l : zL) (st : List Value) (h : zH) : zXf zT znl d 50 55 (a0 :: .ref x :: l) st h = zXf zT znl d 50 56 (a0 :: .ref x :: l) (.ref x :: st) h := (zXq (op := oAl 1 56) zT_50 rfl).trans rfl
theorem q50_56 (d : Nat) (lo : zL) (st : List Value) (h : zH) : zXf zT znl d 50 56 lo st h = zB zT znl d 50 (oGf 5 7 59 lo st h) := zXq (op := oGf 5 7 59) zT_50 rfl
theorem q50_59 (d : Nat) (lo : zL) (st : List Value) (h : zH) : zXf zT znl d 50 59 lo st h = zXf zT znl d 50 60 lo (.int (nI 0) :: st) h := (zXq (op := oPush 0 60) zT_50 rfl).trans rfl
theorem q50_60 (d : Nat) (x : Nat) (l : zL) (st : List Value) (h : zH) : zXf zT znl d 50 60 (.ref x :: l) st h = zXf zT znl d 50 61 (.ref x :: l) (.ref x :: st) h := (zXq (op := oAl 0 61) zT_50 rfl).trans rfl
theorem q50_61 (d : Nat) (lo : zL) (st : List Value) (h : zH) : zXf zT znl d 50 61 lo st h = zB zT znl d 50 (oGf 5 7 64 lo st h) := zXq (op := oGf 5 7 64) zT_50 rfl
theorem q50_64 (d : Nat) (lo : zL) (st : List Value) (h : zH) : zXf zT znl d 50 64 lo st h = zXf zT znl d 50 65 lo (.int (nI 0) :: st) h := (zXq (op := oPush 0 65) zT_50 rfl).trans rfl
theorem q50_65 (d : Nat) (lo : zL) (st : List Value) (h : zH) : zXf zT znl d 50 65 lo st h = zXf zT znl d 50 67 lo (.int (nI 60) :: st) h := (zXq (op := oPush 60 67) zT_50 rfl).trans rfl
theorem q50_67 (d : Nat) (lo : zL) (st : List Value) (h : zH) : zXf zT znl d 50 67 lo st h = zB zT znl d 50 (oCpy 70 lo st h) := zXq (op := oCpy 70) zT_50 rfl
theorem q50_70 (d : Nat) (x : Nat) (l : zL) (st : List Value) (h : zH) : zXf zT znl d 50 70 (.ref x :: l) st h = zXf zT znl d 50 71 (.ref x :: l) (.ref x :: st) h := (zXq (op := oAl 0 71) zT_50 rfl).trans rfl
theorem q50_71 (d : Nat) (a0 : Value) (x : Nat) (l : zL) (st : List Value) (h : zH) : zXf zT znl d 50 71 (a0 :: .ref x :: l) st h = zXf zT znl d 50 72 (a0 :: .ref x :: l) (.ref x :: st) h := (zXq (op := oAl 1 72) zT_50 rfl).trans rfl
theorem q50_72 (d : Nat) (lo : zL) (st : List Value) (h : zH) : zXf zT znl d 50 72 lo st h = zB zT znl d 50 (oGf 5 13 75 lo st h) := zXq (op := oGf 5 13 75) zT_50 rfl
theorem q50_75 (d : Nat) (lo : zL) (st : List Value) (h : zH) : zXf zT znl d 50 75 lo st h = zB zT znl d 50 (oPf 5 13 78 lo st h) := zXq (op := oPf 5 13 78) zT_50 rfl
theorem q50_78 (d : Nat) (a0 : Value) (x : Nat) (l : zL) (st : List Value) (h : zH) : zXf zT znl d 50 78 (a0 :: .ref x :: l) st h = zXf zT znl d 50 79 (a0 :: .ref x :: l) (.ref x :: st) h := (zXq (op := oAl 1 79) zT_50 rfl).trans rfl
theorem q50_79 (d : Nat) (lo : zL) (st : List Value) (h : zH) : zXf zT znl d 50 79 lo st h = zB zT znl d 50 (oGf 5 8 82 lo st h) := zXq (op := oGf 5 8 82) zT_50 rfl
theorem q50_82 (d : Nat) (lo : zL) (st : List Value) (h : zH) : zXf zT znl d 50 82 lo st h = zXf zT znl d 50 83 lo (.int (nI 0) :: st) h := (zXq (op := oPush 0 83) zT_50 rfl).trans rfl
theorem q50_83 (d : Nat) (x : Nat) (l : zL) (st : List Value) (h : zH) : zXf zT znl d 50 83 (.ref x :: l) st h = zXf zT znl d 50 84 (.ref x :: l) (.ref x :: st) h := (zXq (op := oAl 0 84) zT_50 rfl).trans rfl
theorem q50_84 (d : Nat) (lo : zL) (st : List Value) (h : zH) : zXf zT znl d 50 84 lo st h = zB zT znl d 50 (oGf 5 8 87 lo st h) := zXq (op := oGf 5 8 87) zT_50 rfl
theorem q50_87 (d : Nat) (lo : zL) (st : List Value) (h : zH) : zXf zT znl d 50 87 lo st h = zXf zT znl d 50 88 lo (.int (nI 0) :: st) h := (zXq (op := oPush 0 88) zT_50 rfl).trans rfl
theorem q50_88 (d : Nat) (lo : zL) (st : List Value) (h : zH) : zXf zT znl d 50 88 lo st h = zXf zT znl d 50 90 lo (.int (nI 24) :: st) h := (zXq (op := oPush 24 90) zT_50 rfl).trans rfl
theorem q50_90 (d : Nat) (lo : zL) (st : List Value) (h : zH) : zXf zT znl d 50 90 lo st h = zB zT znl d 50 (oCpy 93 lo st h) := zXq (op := oCpy 93) zT_50 rfl
theorem q50_93 (d : Nat) (x : Nat) (l : zL) (st : List Value) (h : zH) : zXf zT znl d 50 93 (.ref x :: l) st h = zXf zT znl d 50 94 (.ref x :: l) (.ref x :: st) h := (zXq (op := oAl 0 94) zT_50 rfl).trans rfl
theorem q50_94 (d : Nat) (a0 : Value) (x : Nat) (l : zL) (st : List Value) (h : zH) : zXf zT znl d 50 94 (a0 :: .ref x :: l) st h = zXf zT znl d 50 95 (a0 :: .ref x :: l) (.ref x :: st) h := (zXq (op := oAl 1 95) zT_50 rfl).trans rfl
theorem q50_95 (d : Nat) (lo : zL) (st : List Value) (h : zH) : zXf zT znl d 50 95 lo st h = zB zT znl d 50 (oGf 5 14 98 lo st h) := zXq (op := oGf 5 14 98) zT_50 rfl
theorem q50_98 (d : Nat) (lo : zL) (st : List Value) (h : zH) : zXf zT znl d 50 98 lo st h = zB zT znl d 50 (oPf 5 14 101 lo st h) := zXq (op := oPf 5 14 101) zT_50 rfl
theorem q50_101 (d : Nat) (x : Nat) (l : zL) (st : List Value) (h : zH) : zXf zT znl d 50 101 (.ref x :: l) st h = zXf zT znl d 50 102 (.ref x :: l) (.ref x :: st) h := (zXq (op := oAl 0 102) zT_50 rfl).trans rfl
theorem q50_102 (d : Nat) (a0 : Value) (x : Nat) (l : zL) (st : List Value) (h : zH) : zXf zT znl d 50 102 (a0 :: .ref x :: l) st h = zXf zT znl d 50 103 (a0 :: .ref x :: l) (.ref x :: st) h := (zXq (op := oAl 1 103) zT_50 rfl).trans rfl
theorem q50_103 (d : Nat) (lo : zL) (x0 x1 : Value) (h : zH) (hr : zrc 5 [x0, x1] = true) : zXf zT znl d 50 103 lo [x1, x0] h = (zCf zT znl d 49 [x0, x1] h).bind fun o => zXf zT znl d 50 106 lo (o.1.toList ++ []) o.2 := (zXq (op := oC2 5 49 106) zT_50 rfl).trans (zB_cl rfl hr)
theorem q50_106 (d : Nat) (lo : zL) (h : zH) : zXf zT znl d 50 106 lo [] h = some (none, h) := (zXq (op := oRet) zT_50 rfl).trans rfl
theorem q51_0 (d : Nat) (x : Nat) (l : zL) (st : List Value) (h : zH) : zXf zT znl d 51 0 (.ref x :: l) st h = zXf zT znl d 51 1 (.ref x :: l) (.ref x :: st) h := (zXq (op := oAl 0 1) zT_51 rfl).trans rfl
theorem q51_1 (d : Nat) (lo : zL) (st : List Value) (h : zH) : zXf zT znl d 51 1 lo st h = zB zT znl d 51 (oGf 5 12 4 lo st h) := zXq (op := oGf 5 12 4) zT_51 rfl
theorem q51_4 (d : Nat) (lo : zL) (st : List Value) (h : zH) : zXf zT znl d 51 4 lo st h = zXf zT znl d 51 6 lo (.int (nI 8) :: st) h := (zXq (op := oPush 8 6) zT_51 rfl).trans rfl
theorem q51_6 (d : Nat) (lo : zL) (x y : Int32) (st : List Value) (h : zH) : zXf zT znl d 51 6 lo (.int y :: .int x :: st) h = if x < y then zXf zT znl d 51 10 lo st h else zXf zT znl d 51 9 lo st h := (zXq (op := oCLt 10 9) zT_51 rfl).trans (zB_if _ _)
theorem q51_9 (d : Nat) (lo : zL) (h : zH) : zXf zT znl d 51 9 lo [] h = some (none, h) := (zXq (op := oRet) zT_51 rfl).trans rfl
theorem q51_10 (d : Nat) (x : Nat) (l : zL) (st : List Value) (h : zH) : zXf zT znl d 51 10 (.ref x :: l) st h = zXf zT znl d 51 11 (.ref x :: l) (.ref x :: st) h := (zXq (op := oAl 0 11) zT_51 rfl).trans rfl
theorem q51_11 (d : Nat) (lo : zL) (st : List Value) (h : zH) : zXf zT znl d 51 11 lo st h = zB zT znl d 51 (oGf 5 2 14 lo st h) := zXq (op := oGf 5 2 14) zT_51 rfl
theorem q51_14 (d : Nat) (x : Nat) (l : zL) (st : List Value) (h : zH) : zXf zT znl d 51 14 (.ref x :: l) st h = zXf zT znl d 51 15 (.ref x :: l) (.ref x :: st) h := (zXq (op := oAl 0 15) zT_51 rfl).trans rfl
theorem q51_15 (d : Nat) (lo : zL) (st : List Value) (h : zH) : zXf zT znl d 51 15 lo st h = zB zT znl d 51 (oGf 5 12 18 lo st h) := zXq (op := oGf 5 12 18) zT_51 rfl
theorem q51_18 (d : Nat) (lo : zL) (st : List Value) (h : zH) : zXf zT znl d 51 18 lo st h = zB zT znl d 51 (oAald 19 lo st h) := zXq (op := oAald 19) zT_51 rfl
theorem q51_19 (d : Nat) (a0 : Value) (a1 : Value) (a2 : Value) (a3 : Value) (a4 : Value) (a5 : Value) (x : Nat) (l : zL) (st : List Value) (h : zH) (hz : zokv a4 = true) : zXf zT znl d 51 19 (a0 :: a1 :: a2 :: a3 :: a4 :: a5 :: l) (.ref x :: st) h = zXf zT znl d 51 21 (a0 :: a1 :: a2 :: a3 :: a4 :: .ref x :: l) st h := by
  refine (zXq (op := oAs 5 21) zT_51 rfl).trans ?_
  simp only [oAs, zok, hz, Bool.and_self, if_true, List.set_cons_succ, List.set_cons_zero, zB_go]
theorem q51_21 (d : Nat) (a0 : Value) (a1 : Value) (a2 : Value) (a3 : Value) (a4 : Value) (x : Nat) (l : zL) (st : List Value) (h : zH) : zXf zT znl d 51 21 (a0 :: a1 :: a2 :: a3 :: a4 :: .ref x :: l) st h = zXf zT znl d 51 23 (a0 :: a1 :: a2 :: a3 :: a4 :: .ref x :: l) (.ref x :: st) h := (zXq (op := oAl 5 23) zT_51 rfl).trans rfl
theorem q51_23 (d : Nat) (lo : zL) (st : List Value) (h : zH) : zXf zT znl d 51 23 lo st h = zXf zT znl d 51 24 lo (.int (nI 0) :: st) h := (zXq (op := oPush 0 24) zT_51 rfl).trans rfl
theorem q51_24 (d : Nat) (a0 : Value) (x : Int32) (l : zL) (st : List Value) (h : zH) : zXf zT znl d 51 24 (a0 :: .int x :: l) st h = zXf zT znl d 51 25 (a0 :: .int x :: l) (.int x :: st) h := (zXq (op := oIl 1 25) zT_51 rfl).trans rfl
theorem q51_25 (d : Nat) (lo : zL) (st : List Value) (h : zH) : zXf zT znl d 51 25 lo st h = zB zT znl d 51 (oIast 26 lo st h) := zXq (op := oIast 26) zT_51 rfl
theorem q51_26 (d : Nat) (a0 : Value) (a1 : Value) (a2 : Value) (a3 : Value) (a4 : Value) (x : Nat) (l : zL) (st : List Value) (h : zH) : zXf zT znl d 51 26 (a0 :: a1 :: a2 :: a3 :: a4 :: .ref x :: l) st h = zXf zT znl d 51 28 (a0 :: a1 :: a2 :: a3 :: a4 :: .ref x :: l) (.ref x :: st) h := (zXq (op := oAl 5 28) zT_51 rfl).trans rfl
theorem q51_28 (d : Nat) (lo : zL) (st : List Value) (h : zH) : zXf zT znl d 51 28 lo st h = zXf zT znl d 51 29 lo (.int (nI 1) :: st) h := (zXq (op := oPush 1 29) zT_51 rfl).trans rfl
theorem q51_29 (d : Nat) (a0 : Value) (a1 : Value) (x : Int32) (l : zL) (st : List Value) (h : zH) : zXf zT znl d 51 29 (a0 :: a1 :: .int x :: l) st h = zXf zT znl d 51 30 (a0 :: a1 :: .int x :: l) (.int x :: st) h := (zXq (op := oIl 2 30) zT_51 rfl).trans rfl
theorem q51_30 (d : Nat) (lo : zL) (st : List Value) (h : zH) : zXf zT znl d 51 30 lo st h = zB zT znl d 51 (oIast 31 lo st h) := zXq (op := oIast 31) zT_51 rfl
theorem q51_31 (d : Nat) (a0 : Value) (a1 : Value) (a2 : Value) (a3 : Value) (a4 : Value) (x : Nat) (l : zL) (st : List Value) (h : zH) : zXf zT znl d 51 31 (a0 :: a1 :: a2 :: a3 :: a4 :: .ref x :: l) st h = zXf zT znl d 51 33 (a0 :: a1 :: a2 :: a3 :: a4 :: .ref x :: l) (.ref x :: st) h := (zXq (op := oAl 5 33) zT_51 rfl).trans rfl
theorem q51_33 (d : Nat) (lo : zL) (st : List Value) (h : zH) : zXf zT znl d 51 33 lo st h = zXf zT znl d 51 34 lo (.int (nI 2) :: st) h := (zXq (op := oPush 2 34) zT_51 rfl).trans rfl
theorem q51_34 (d : Nat) (a0 : Value) (a1 : Value) (a2 : Value) (x : Int32) (l : zL) (st : List Value) (h : zH) : zXf zT znl d 51 34 (a0 :: a1 :: a2 :: .int x :: l) st h = zXf zT znl d 51 35 (a0 :: a1 :: a2 :: .int x :: l) (.int x :: st) h := (zXq (op := oIl 3 35) zT_51 rfl).trans rfl
theorem q51_35 (d : Nat) (lo : zL) (st : List Value) (h : zH) : zXf zT znl d 51 35 lo st h = zB zT znl d 51 (oIast 36 lo st h) := zXq (op := oIast 36) zT_51 rfl
theorem q51_36 (d : Nat) (a0 : Value) (a1 : Value) (a2 : Value) (a3 : Value) (a4 : Value) (x : Nat) (l : zL) (st : List Value) (h : zH) : zXf zT znl d 51 36 (a0 :: a1 :: a2 :: a3 :: a4 :: .ref x :: l) st h = zXf zT znl d 51 38 (a0 :: a1 :: a2 :: a3 :: a4 :: .ref x :: l) (.ref x :: st) h := (zXq (op := oAl 5 38) zT_51 rfl).trans rfl
theorem q51_38 (d : Nat) (lo : zL) (st : List Value) (h : zH) : zXf zT znl d 51 38 lo st h = zXf zT znl d 51 39 lo (.int (nI 3) :: st) h := (zXq (op := oPush 3 39) zT_51 rfl).trans rfl
theorem q51_39 (d : Nat) (a0 : Value) (a1 : Value) (a2 : Value) (a3 : Value) (x : Int32) (l : zL) (st : List Value) (h : zH) : zXf zT znl d 51 39 (a0 :: a1 :: a2 :: a3 :: .int x :: l) st h = zXf zT znl d 51 41 (a0 :: a1 :: a2 :: a3 :: .int x :: l) (.int x :: st) h := (zXq (op := oIl 4 41) zT_51 rfl).trans rfl
theorem q51_41 (d : Nat) (lo : zL) (st : List Value) (h : zH) : zXf zT znl d 51 41 lo st h = zB zT znl d 51 (oIast 42 lo st h) := zXq (op := oIast 42) zT_51 rfl
theorem q51_42 (d : Nat) (a0 : Value) (a1 : Value) (a2 : Value) (a3 : Value) (a4 : Value) (x : Nat) (l : zL) (st : List Value) (h : zH) : zXf zT znl d 51 42 (a0 :: a1 :: a2 :: a3 :: a4 :: .ref x :: l) st h = zXf zT znl d 51 44 (a0 :: a1 :: a2 :: a3 :: a4 :: .ref x :: l) (.ref x :: st) h := (zXq (op := oAl 5 44) zT_51 rfl).trans rfl
theorem q51_44 (d : Nat) (lo : zL) (st : List Value) (h : zH) : zXf zT znl d 51 44 lo st h = zXf zT znl d 51 45 lo (.int (nI 4) :: st) h := (zXq (op := oPush 4 45) zT_51 rfl).trans rfl
theorem q51_45 (d : Nat) (lo : zL) (st : List Value) (h : zH) : zXf zT znl d 51 45 lo st h = zXf zT znl d 51 46 lo (.int (nI 0) :: st) h := (zXq (op := oPush 0 46) zT_51 rfl).trans rfl
theorem q51_46 (d : Nat) (lo : zL) (st : List Value) (h : zH) : zXf zT znl d 51 46 lo st h = zB zT znl d 51 (oIast 47 lo st h) := zXq (op := oIast 47) zT_51 rfl
theorem q51_47 (d : Nat) (a0 : Value) (a1 : Value) (a2 : Value) (a3 : Value) (a4 : Value) (x : Nat) (l : zL) (st : List Value) (h : zH) : zXf zT znl d 51 47 (a0 :: a1 :: a2 :: a3 :: a4 :: .ref x :: l) st h = zXf zT znl d 51 49 (a0 :: a1 :: a2 :: a3 :: a4 :: .ref x :: l) (.ref x :: st) h := (zXq (op := oAl 5 49) zT_51 rfl).trans rfl
theorem q51_49 (d : Nat) (lo : zL) (st : List Value) (h : zH) : zXf zT znl d 51 49 lo st h = zXf zT znl d 51 50 lo (.int (nI 5) :: st) h := (zXq (op := oPush 5 50) zT_51 rfl).trans rfl
theorem q51_50 (d : Nat) (lo : zL) (st : List Value) (h : zH) : zXf zT znl d 51 50 lo st h = zXf zT znl d 51 52 lo (.int (nI 20) :: st) h := (zXq (op := oPush 20 52) zT_51 rfl).trans rfl
theorem q51_52 (d : Nat) (lo : zL) (st : List Value) (h : zH) : zXf zT znl d 51 52 lo st h = zB zT znl d 51 (oIast 53 lo st h) := zXq (op := oIast 53) zT_51 rfl
theorem q51_53 (d : Nat) (a0 : Value) (a1 : Value) (a2 : Value) (a3 : Value) (a4 : Value) (x : Nat) (l : zL) (st : List Value) (h : zH) : zXf zT znl d 51 53 (a0 :: a1 :: a2 :: a3 :: a4 :: .ref x :: l) st h = zXf zT znl d 51 55 (a0 :: a1 :: a2 :: a3 :: a4 :: .ref x :: l) (.ref x :: st) h := (zXq (op := oAl 5 55) zT_51 rfl).trans rfl
theorem q51_55 (d : Nat) (lo : zL) (st : List Value) (h : zH) : zXf zT znl d 51 55 lo st h = zXf zT znl d 51 57 lo (.int (nI 6) :: st) h := (zXq (op := oPush 6 57) zT_51 rfl).trans rfl
theorem q51_57 (d : Nat) (lo : zL) (st : List Value) (h : zH) : zXf zT znl d 51 57 lo st h = zXf zT znl d 51 58 lo (.int (nI 0) :: st) h := (zXq (op := oPush 0 58) zT_51 rfl).trans rfl
theorem q51_58 (d : Nat) (lo : zL) (st : List Value) (h : zH) : zXf zT znl d 51 58 lo st h = zB zT znl d 51 (oIast 59 lo st h) := zXq (op := oIast 59) zT_51 rfl
theorem q51_59 (d : Nat) (a0 : Value) (a1 : Value) (a2 : Value) (a3 : Value) (a4 : Value) (x : Nat) (l : zL) (st : List Value) (h : zH) : zXf zT znl d 51 59 (a0 :: a1 :: a2 :: a3 :: a4 :: .ref x :: l) st h = zXf zT znl d 51 61 (a0 :: a1 :: a2 :: a3 :: a4 :: .ref x :: l) (.ref x :: st) h := (zXq (op := oAl 5 61) zT_51 rfl).trans rfl
theorem q51_61 (d : Nat) (lo : zL) (st : List Value) (h : zH) : zXf zT znl d 51 61 lo st h = zXf zT znl d 51 63 lo (.int (nI 7) :: st) h := (zXq (op := oPush 7 63) zT_51 rfl).trans rfl
theorem q51_63 (d : Nat) (lo : zL) (st : List Value) (h : zH) : zXf zT znl d 51 63 lo st h = zXf zT znl d 51 64 lo (.int (nI 0) :: st) h := (zXq (op := oPush 0 64) zT_51 rfl).trans rfl
theorem q51_64 (d : Nat) (lo : zL) (st : List Value) (h : zH) : zXf zT znl d 51 64 lo st h = zB zT znl d 51 (oIast 65 lo st h) := zXq (op := oIast 65) zT_51 rfl
theorem q51_65 (d : Nat) (x : Nat) (l : zL) (st : List Value) (h : zH) : zXf zT znl d 51 65 (.ref x :: l) st h = zXf zT znl d 51 66 (.ref x :: l) (.ref x :: st) h := (zXq (op := oAl 0 66) zT_51 rfl).trans rfl
theorem q51_66i (d : Nat) (lo : zL) (x : Int32) (st : List Value) (h : zH) : zXf zT znl d 51 66 lo (.int x :: st) h = zXf zT znl d 51 67 lo (.int x :: .int x :: st) h := (zXq (op := oDup 67) zT_51 rfl).trans rfl
theorem q51_66r (d : Nat) (lo : zL) (x : Nat) (st : List Value) (h : zH) : zXf zT znl d 51 66 lo (.ref x :: st) h = zXf zT znl d 51 67 lo (.ref x :: .ref x :: st) h := (zXq (op := oDup 67) zT_51 rfl).trans rfl
theorem q51_67 (d : Nat) (lo : zL) (st : List Value) (h : zH) : zXf zT znl d 51 67 lo st h = zB zT znl d 51 (oGf 5 12 70 lo st h) := zXq (op := oGf 5 12 70) zT_51 rfl
theorem q51_70 (d : Nat) (lo : zL) (st : List Value) (h : zH) : zXf zT znl d 51 70 lo st h = zXf zT znl d 51 71 lo (.int (nI 1) :: st) h := (zXq (op := oPush 1 71) zT_51 rfl).trans rfl
theorem q51_71 (d : Nat) (lo : zL) (x y : Int32) (st : List Value) (h : zH) : zXf zT znl d 51 71 lo (.int y :: .int x :: st) h = zXf zT znl d 51 72 lo (.int (x + y) :: st) h := (zXq (op := oBin (fun x y => x + y) 72) zT_51 rfl).trans rfl
theorem q51_72 (d : Nat) (lo : zL) (st : List Value) (h : zH) : zXf zT znl d 51 72 lo st h = zB zT znl d 51 (oPf 5 12 75 lo st h) := zXq (op := oPf 5 12 75) zT_51 rfl
theorem q51_75 (d : Nat) (lo : zL) (h : zH) : zXf zT znl d 51 75 lo [] h = some (none, h) := (zXq (op := oRet) zT_51 rfl).trans rfl
theorem q52_0 (d : Nat) (lo : zL) (st : List Value) (h : zH) : zXf zT znl d 52 0 lo st h = zXf zT znl d 52 1 lo (.int (nI 0) :: st) h := (zXq (op := oPush 0 1) zT_52 rfl).trans rfl
theorem q52_1 (d : Nat) (a0 : Value) (a1 : Value) (a2 : Value) (x : Int32) (l : zL) (st : List Value) (h : zH) (hz : zokv a1 = true) : zXf zT znl d 52 1 (a0 :: a1 :: a2 :: l) (.int x :: st) h = zXf zT znl d 52 2 (a0 :: a1 :: .int x :: l) st h := by
  refine (zXq (op := oIs 2 2) zT_52 rfl).trans ?_
  simp only [oIs, zok, hz, Bool.and_self, if_true, List.set_cons_succ, List.set_cons_zero, zB_go]
theorem q52_2 (d : Nat) (lo : zL) (st : List Value) (h : zH) : zXf zT znl d 52 2 lo st h = zXf zT znl d 52 3 lo (.int (nI 0) :: st) h := (zXq (op := oPush 0 3) zT_52 rfl).trans rfl
theorem q52_3 (d : Nat) (a0 : Value) (a1 : Value) (a2 : Value) (a3 : Value) (x : Int32) (l : zL) (st : List Value) (h : zH) (hz : zokv a2 = true) : zXf zT znl d 52 3 (a0 :: a1 :: a2 :: a3 :: l) (.int x :: st) h = zXf zT znl d 52 4 (a0 :: a1 :: a2 :: .int x :: l) st h := by
  refine (zXq (op := oIs 3 4) zT_52 rfl).trans ?_
  simp only [oIs, zok, hz, Bool.and_self, if_true, List.set_cons_succ, List.set_cons_zero, zB_go]
theorem q52_4 (d : Nat) (a0 : Value) (a1 : Value) (a2 : Value) (x : Int32) (l : zL) (st : List Value) (h : zH) : zXf zT znl d 52 4 (a0 :: a1 :: a2 :: .int x :: l) st h = zXf zT znl d 52 5 (a0 :: a1 :: a2 :: .int x :: l) (.int x :: st) h := (zXq (op := oIl 3 5) zT_52 rfl).trans rfl
theorem q52_5 (d : Nat) (x : Nat) (l : zL) (st : List Value) (h : zH) : zXf zT znl d 52 5 (.ref x :: l) st h = zXf zT znl d 52 6 (.ref x :: l) (.ref x :: st) h := (zXq (op := oAl 0 6) zT_52 rfl).trans rfl
theorem q52_6 (d : Nat) (lo : zL) (st : List Value) (h : zH) : zXf zT znl d 52 6 lo st h = zB zT znl d 52 (oGf 5 12 9 lo st h) := zXq (op := oGf 5 12 9) zT_52 rfl
theorem q52_9 (d : Nat) (lo : zL) (x y : Int32) (st : List Value) (h : zH) : zXf zT znl d 52 9 lo (.int y :: .int x :: st) h = if y ≤ x then zXf zT znl d 52 69 lo st h else zXf zT znl d 52 12 lo st h := (zXq (op := oCGe 69 12) zT_52 rfl).trans (zB_if _ _)
theorem q52_12 (d : Nat) (x : Nat) (l : zL) (st : List Value) (h : zH) : zXf zT znl d 52 12 (.ref x :: l) st h = zXf zT znl d 52 13 (.ref x :: l) (.ref x :: st) h := (zXq (op := oAl 0 13) zT_52 rfl).trans rfl
theorem q52_13 (d : Nat) (lo : zL) (st : List Value) (h : zH) : zXf zT znl d 52 13 lo st h = zB zT znl d 52 (oGf 5 2 16 lo st h) := zXq (op := oGf 5 2 16) zT_52 rfl
theorem q52_16 (d : Nat) (a0 : Value) (a1 : Value) (a2 : Value) (x : Int32) (l : zL) (st : List Value) (h : zH) : zXf zT znl d 52 16 (a0 :: a1 :: a2 :: .int x :: l) st h = zXf zT znl d 52 17 (a0 :: a1 :: a2 :: .int x :: l) (.int x :: st) h := (zXq (op := oIl 3 17) zT_52 rfl).trans rfl
theorem q52_17 (d : Nat) (lo : zL) (st : List Value) (h : zH) : zXf zT znl d 52 17 lo st h = zB zT znl d 52 (oAald 18 lo st h) := zXq (op := oAald 18) zT_52 rfl
theorem q52_18 (d : Nat) (a0 : Value) (a1 : Value) (a2 : Value) (a3 : Value) (a4 : Value) (x : Nat) (l : zL) (st : List Value) (h : zH) (hz : zokv a3 = true) : zXf zT znl d 52 18 (a0 :: a1 :: a2 :: a3 :: a4 :: l) (.ref x :: st) h = zXf zT znl d 52 20 (a0 :: a1 :: a2 :: a3 :: .ref x :: l) st h := by
  refine (zXq (op := oAs 4 20) zT_52 rfl).trans ?_
  simp only [oAs, zok, hz, Bool.and_self, if_true, List.set_cons_succ, List.set_cons_zero, zB_go]
theorem q52_20 (d : Nat) (a0 : Value) (a1 : Value) (a2 : Value) (x : Int32) (l : zL) (st : List Value) (h : zH) : zXf zT znl d 52 20 (a0 :: a1 :: a2 :: .int x :: l) st h = zXf zT znl d 52 21 (a0 :: a1 :: a2 :: .int x :: l) (.int x :: st) h := (zXq (op := oIl 3 21) zT_52 rfl).trans rfl
theorem q52_21 (d : Nat) (a0 : Value) (x : Int32) (l : zL) (st : List Value) (h : zH) : zXf zT znl d 52 21 (a0 :: .int x :: l) st h = zXf zT znl d 52 22 (a0 :: .int x :: l) (.int x :: st) h := (zXq (op := oIl 1 22) zT_52 rfl).trans rfl
theorem q52_22 (d : Nat) (lo : zL) (x y : Int32) (st : List Value) (h : zH) : zXf zT znl d 52 22 lo (.int y :: .int x :: st) h = if x = y then zXf zT znl d 52 63 lo st h else zXf zT znl d 52 25 lo st h := (zXq (op := oCEq 63 25) zT_52 rfl).trans (zB_if _ _)
theorem q52_25 (d : Nat) (a0 : Value) (a1 : Value) (a2 : Value) (a3 : Value) (x : Nat) (l : zL) (st : List Value) (h : zH) : zXf zT znl d 52 25 (a0 :: a1 :: a2 :: a3 :: .ref x :: l) st h = zXf zT znl d 52 27 (a0 :: a1 :: a2 :: a3 :: .ref x :: l) (.ref x :: st) h := (zXq (op := oAl 4 27) zT_52 rfl).trans rfl
theorem q52_27 (d : Nat) (lo : zL) (st : List Value) (h : zH) : zXf zT znl d 52 27 lo st h = zXf zT znl d 52 28 lo (.int (nI 0) :: st) h := (zXq (op := oPush 0 28) zT_52 rfl).trans rfl
theorem q52_28 (d : Nat) (lo : zL) (st : List Value) (h : zH) : zXf zT znl d 52 28 lo st h = zB zT znl d 52 (oIald 29 lo st h) := zXq (op := oIald 29) zT_52 rfl
theorem q52_29 (d : Nat) (lo : zL) (st : List Value) (h : zH) : zXf zT znl d 52 29 lo st h = zXf zT znl d 52 30 lo (.int (nI 3) :: st) h := (zXq (op := oPush 3 30) zT_52 rfl).trans rfl
theorem q52_30 (d : Nat) (lo : zL) (x y : Int32) (st : List Value) (h : zH) : zXf zT znl d 52 30 lo (.int y :: .int x :: st) h = if x = y then zXf zT znl d 52 33 lo st h else zXf zT znl d 52 63 lo st h := (zXq (op := oCNe 63 33) zT_52 rfl).trans (zB_if _ _)
theorem q52_33 (d : Nat) (a0 : Value) (a1 : Value) (a2 : Value) (a3 : Value) (x : Nat) (l : zL) (st : List Value) (h : zH) : zXf zT znl d 52 33 (a0 :: a1 :: a2 :: a3 :: .ref x :: l) st h = zXf zT znl d 52 35 (a0 :: a1 :: a2 :: a3 :: .ref x :: l) (.ref x :: st) h := (zXq (op := oAl 4 35) zT_52 rfl).trans rfl
theorem q52_35 (d : Nat) (lo : zL) (st : List Value) (h : zH) : zXf zT znl d 52 35 lo st h = zXf zT znl d 52 37 lo (.int (nI 7) :: st) h := (zXq (op := oPush 7 37) zT_52 rfl).trans rfl
theorem q52_37 (d : Nat) (lo : zL) (st : List Value) (h : zH) : zXf zT znl d 52 37 lo st h = zB zT znl d 52 (oIald 38 lo st h) := zXq (op := oIald 38) zT_52 rfl
theorem q52_38 (d : Nat) (lo : zL) (x : Int32) (st : List Value) (h : zH) : zXf zT znl d 52 38 lo (.int x :: st) h = if x = nI 0 then zXf zT znl d 52 41 lo st h else zXf zT znl d 52 63 lo st h := (zXq (op := oNe0 63 41) zT_52 rfl).trans (zB_if _ _)
theorem q52_41 (d : Nat) (a0 : Value) (a1 : Value) (a2 : Value) (a3 : Value) (x : Nat) (l : zL) (st : List Value) (h : zH) : zXf zT znl d 52 41 (a0 :: a1 :: a2 :: a3 :: .ref x :: l) st h = zXf zT znl d 52 43 (a0 :: a1 :: a2 :: a3 :: .ref x :: l) (.ref x :: st) h := (zXq (op := oAl 4 43) zT_52 rfl).trans rfl
theorem q52_43 (d : Nat) (lo : zL) (st : List Value) (h : zH) : zXf zT znl d 52 43 lo st h = zXf zT znl d 52 44 lo (.int (nI 2) :: st) h := (zXq (op := oPush 2 44) zT_52 rfl).trans rfl
theorem q52_44 (d : Nat) (lo : zL) (st : List Value) (h : zH) : zXf zT znl d 52 44 lo st h = zB zT znl d 52 (oIald 45 lo st h) := zXq (op := oIald 45) zT_52 rfl
theorem q52_45 (d : Nat) (x : Nat) (l : zL) (st : List Value) (h : zH) : zXf zT znl d 52 45 (.ref x :: l) st h = zXf zT znl d 52 46 (.ref x :: l) (.ref x :: st) h := (zXq (op := oAl 0 46) zT_52 rfl).trans rfl
theorem q52_46 (d : Nat) (lo : zL) (st : List Value) (h : zH) : zXf zT znl d 52 46 lo st h = zB zT znl d 52 (oGf 5 2 49 lo st h) := zXq (op := oGf 5 2 49) zT_52 rfl
theorem q52_49 (d : Nat) (a0 : Value) (x : Int32) (l : zL) (st : List Value) (h : zH) : zXf zT znl d 52 49 (a0 :: .int x :: l) st h = zXf zT znl d 52 50 (a0 :: .int x :: l) (.int x :: st) h := (zXq (op := oIl 1 50) zT_52 rfl).trans rfl
theorem q52_50 (d : Nat) (lo : zL) (st : List Value) (h : zH) : zXf zT znl d 52 50 lo st h = zB zT znl d 52 (oAald 51 lo st h) := zXq (op := oAald 51) zT_52 rfl
theorem q52_51 (d : Nat) (lo : zL) (st : List Value) (h : zH) : zXf zT znl d 52 51 lo st h = zXf zT znl d 52 52 lo (.int (nI 2) :: st) h := (zXq (op := oPush 2 52) zT_52 rfl).trans rfl
theorem q52_52 (d : Nat) (lo : zL) (st : List Value) (h : zH) : zXf zT znl d 52 52 lo st h = zB zT znl d 52 (oIald 53 lo st h) := zXq (op := oIald 53) zT_52 rfl
theorem q52_53 (d : Nat) (lo : zL) (x0 x1 : Value) (h : zH) : zXf zT znl d 52 53 lo [x1, x0] h = (zCf zT znl d 1 [x0, x1] h).bind fun o => zXf zT znl d 52 56 lo (o.1.toList ++ []) o.2 := (zXq (op := oC2 98 1 56) zT_52 rfl).trans (zB_cl rfl rfl)
theorem q52_56 (d : Nat) (lo : zL) (st : List Value) (h : zH) : zXf zT znl d 52 56 lo st h = zXf zT znl d 52 57 lo (.int (nI 4) :: st) h := (zXq (op := oPush 4 57) zT_52 rfl).trans rfl
theorem q52_57 (d : Nat) (lo : zL) (x y : Int32) (st : List Value) (h : zH) : zXf zT znl d 52 57 lo (.int y :: .int x :: st) h = if y < x then zXf zT znl d 52 63 lo st h else zXf zT znl d 52 60 lo st h := (zXq (op := oCGt 63 60) zT_52 rfl).trans (zB_if _ _)
theorem q52_60 (d : Nat) (a0 : Value) (a1 : Value) (x : Int32) (l : zL) (st : List Value) (h : zH) (hz : zokv a1 = true) : zXf zT znl d 52 60 (a0 :: a1 :: .int x :: l) st h = zXf zT znl d 52 63 (a0 :: a1 :: .int (x + nI 1) :: l) st h := by
  refine (zXq (op := oInc 2 1 63) zT_52 rfl).trans ?_
  simp only [oInc, List.getElem?_cons_succ, List.getElem?_cons_zero, zok, hz, Bool.and_self, if_true, List.set_cons_succ, List.set_cons_zero, zB_go]
  try rfl
theorem q52_63 (d : Nat) (a0 : Value) (a1 : Value) (a2 : Value) (x : Int32) (l : zL) (st : List Value) (h : zH) (hz : zokv a2 = true) : zXf zT znl d 52 63 (a0 :: a1 :: a2 :: .int x :: l) st h = zXf zT znl d 52 66 (a0 :: a1 :: a2 :: .int (x + nI 1) :: l) st h := by
  refine (zXq (op := oInc 3 1 66) zT_52 rfl).trans ?_
  simp only [oInc, List.getElem?_cons_succ, List.getElem?_cons_zero, zok, hz, Bool.and_self, if_true, List.set_cons_succ, List.set_cons_zero, zB_go]
  try rfl
theorem q52_66 (d : Nat) (lo : zL) (st : List Value) (h : zH) : zXf zT znl d 52 66 lo st h = zXf zT znl d 52 4 lo st h := (zXq (op := oGoto 4) zT_52 rfl).trans rfl
theorem q52_69 (d : Nat) (a0 : Value) (a1 : Value) (x : Int32) (l : zL) (st : List Value) (h : zH) : zXf zT znl d 52 69 (a0 :: a1 :: .int x :: l) st h = zXf zT znl d 52 70 (a0 :: a1 :: .int x :: l) (.int x :: st) h := (zXq (op := oIl 2 70) zT_52 rfl).trans rfl
theorem q52_70 (d : Nat) (lo : zL) (x : Int32) (h : zH) : zXf zT znl d 52 70 lo [.int x] h = some (some (.int x), h) := (zXq (op := oIret) zT_52 rfl).trans rfl
theorem q53_0 (d : Nat) (x : Nat) (l : zL) (st : List Value) (h : zH) : zXf zT znl d 53 0 (.ref x :: l) st h = zXf zT znl d 53 1 (.ref x :: l) (.ref x :: st) h := (zXq (op := oAl 0 1) zT_53 rfl).trans rfl
theorem q53_1 (d : Nat) (lo : zL) (st : List Value) (h : zH) : zXf zT znl d 53 1 lo st h = zB zT znl d 53 (oGf 5 3 4 lo st h) := zXq (op := oGf 5 3 4) zT_53 rfl
theorem q53_4 (d : Nat) (lo : zL) (st : List Value) (h : zH) : zXf zT znl d 53 4 lo st h = zB zT znl d 53 (oGf 4 4 7 lo st h) := zXq (op := oGf 4 4 7) zT_53 rfl
theorem q53_7 (d : Nat) (lo : zL) (x : Int32) (st : List Value) (h : zH) : zXf zT znl d 53 7 lo (.int x :: st) h = if x = nI 0 then zXf zT znl d 53 10 lo st h else zXf zT znl d 53 18 lo st h := (zXq (op := oNe0 18 10) zT_53 rfl).trans (zB_if _ _)
theorem q53_10 (d : Nat) (a0 : Value) (x : Nat) (l : zL) (st : List Value) (h : zH) : zXf zT znl d 53 10 (a0 :: .ref x :: l) st h = zXf zT znl d 53 11 (a0 :: .ref x :: l) (.ref x :: st) h := (zXq (op := oAl 1 11) zT_53 rfl).trans rfl
theorem q53_11 (d : Nat) (lo : zL) (st : List Value) (h : zH) : zXf zT znl d 53 11 lo st h = zXf zT znl d 53 12 lo (.int (nI 3) :: st) h := (zXq (op := oPush 3 12) zT_53 rfl).trans rfl
theorem q53_12 (d : Nat) (lo : zL) (st : List Value) (h : zH) : zXf zT znl d 53 12 lo st h = zB zT znl d 53 (oIald 13 lo st h) := zXq (op := oIald 13) zT_53 rfl
theorem q53_13 (d : Nat) (a0 : Value) (x : Nat) (l : zL) (st : List Value) (h : zH) : zXf zT znl d 53 13 (a0 :: .ref x :: l) st h = zXf zT znl d 53 14 (a0 :: .ref x :: l) (.ref x :: st) h := (zXq (op := oAl 1 14) zT_53 rfl).trans rfl
theorem q53_14 (d : Nat) (lo : zL) (st : List Value) (h : zH) : zXf zT znl d 53 14 lo st h = zXf zT znl d 53 15 lo (.int (nI 4) :: st) h := (zXq (op := oPush 4 15) zT_53 rfl).trans rfl
theorem q53_15 (d : Nat) (lo : zL) (st : List Value) (h : zH) : zXf zT znl d 53 15 lo st h = zB zT znl d 53 (oIald 16 lo st h) := zXq (op := oIald 16) zT_53 rfl
theorem q53_16 (d : Nat) (lo : zL) (x y : Int32) (st : List Value) (h : zH) : zXf zT znl d 53 16 lo (.int y :: .int x :: st) h = zXf zT znl d 53 17 lo (.int (x - y) :: st) h := (zXq (op := oBin (fun x y => x - y) 17) zT_53 rfl).trans rfl
theorem q53_17 (d : Nat) (lo : zL) (x : Int32) (h : zH) : zXf zT znl d 53 17 lo [.int x] h = some (some (.int x), h) := (zXq (op := oIret) zT_53 rfl).trans rfl
theorem q53_18 (d : Nat) (x : Nat) (l : zL) (st : List Value) (h : zH) : zXf zT znl d 53 18 (.ref x :: l) st h = zXf zT znl d 53 19 (.ref x :: l) (.ref x :: st) h := (zXq (op := oAl 0 19) zT_53 rfl).trans rfl
theorem q53_19 (d : Nat) (lo : zL) (st : List Value) (h : zH) : zXf zT znl d 53 19 lo st h = zB zT znl d 53 (oGf 5 5 22 lo st h) := zXq (op := oGf 5 5 22) zT_53 rfl
theorem q53_22 (d : Nat) (lo : zL) (st : List Value) (h : zH) : zXf zT znl d 53 22 lo st h = zXf zT znl d 53 23 lo (.int (nI 0) :: st) h := (zXq (op := oPush 0 23) zT_53 rfl).trans rfl
theorem q53_23 (d : Nat) (a0 : Value) (a1 : Value) (x : Int32) (l : zL) (st : List Value) (h : zH) : zXf zT znl d 53 23 (a0 :: a1 :: .int x :: l) st h = zXf zT znl d 53 24 (a0 :: a1 :: .int x :: l) (.int x :: st) h := (zXq (op := oIl 2 24) zT_53 rfl).trans rfl
theorem q53_24 (d : Nat) (lo : zL) (st : List Value) (h : zH) : zXf zT znl d 53 24 lo st h = zB zT znl d 53 (oIast 25 lo st h) := zXq (op := oIast 25) zT_53 rfl
theorem q53_25 (d : Nat) (x : Nat) (l : zL) (st : List Value) (h : zH) : zXf zT znl d 53 25 (.ref x :: l) st h = zXf zT znl d 53 26 (.ref x :: l) (.ref x :: st) h := (zXq (op := oAl 0 26) zT_53 rfl).trans rfl
theorem q53_26 (d : Nat) (lo : zL) (st : List Value) (h : zH) : zXf zT znl d 53 26 lo st h = zB zT znl d 53 (oGf 5 5 29 lo st h) := zXq (op := oGf 5 5 29) zT_53 rfl
theorem q53_29 (d : Nat) (lo : zL) (st : List Value) (h : zH) : zXf zT znl d 53 29 lo st h = zXf zT znl d 53 30 lo (.int (nI 1) :: st) h := (zXq (op := oPush 1 30) zT_53 rfl).trans rfl
theorem q53_30 (d : Nat) (a0 : Value) (x : Nat) (l : zL) (st : List Value) (h : zH) : zXf zT znl d 53 30 (a0 :: .ref x :: l) st h = zXf zT znl d 53 31 (a0 :: .ref x :: l) (.ref x :: st) h := (zXq (op := oAl 1 31) zT_53 rfl).trans rfl
theorem q53_31 (d : Nat) (lo : zL) (st : List Value) (h : zH) : zXf zT znl d 53 31 lo st h = zXf zT znl d 53 32 lo (.int (nI 3) :: st) h := (zXq (op := oPush 3 32) zT_53 rfl).trans rfl
theorem q53_32 (d : Nat) (lo : zL) (st : List Value) (h : zH) : zXf zT znl d 53 32 lo st h = zB zT znl d 53 (oIald 33 lo st h) := zXq (op := oIald 33) zT_53 rfl
theorem q53_33 (d : Nat) (lo : zL) (st : List Value) (h : zH) : zXf zT znl d 53 33 lo st h = zB zT znl d 53 (oIast 34 lo st h) := zXq (op := oIast 34) zT_53 rfl
theorem q53_34 (d : Nat) (x : Nat) (l : zL) (st : List Value) (h : zH) : zXf zT znl d 53 34 (.ref x :: l) st h = zXf zT znl d 53 35 (.ref x :: l) (.ref x :: st) h := (zXq (op := oAl 0 35) zT_53 rfl).trans rfl
theorem q53_35 (d : Nat) (lo : zL) (st : List Value) (h : zH) : zXf zT znl d 53 35 lo st h = zB zT znl d 53 (oGf 5 5 38 lo st h) := zXq (op := oGf 5 5 38) zT_53 rfl
theorem q53_38 (d : Nat) (lo : zL) (st : List Value) (h : zH) : zXf zT znl d 53 38 lo st h = zXf zT znl d 53 39 lo (.int (nI 2) :: st) h := (zXq (op := oPush 2 39) zT_53 rfl).trans rfl
theorem q53_39 (d : Nat) (a0 : Value) (x : Nat) (l : zL) (st : List Value) (h : zH) : zXf zT znl d 53 39 (a0 :: .ref x :: l) st h = zXf zT znl d 53 40 (a0 :: .ref x :: l) (.ref x :: st) h := (zXq (op := oAl 1 40) zT_53 rfl).trans rfl
theorem q53_40 (d : Nat) (lo : zL) (st : List Value) (h : zH) : zXf zT znl d 53 40 lo st h = zXf zT znl d 53 41 lo (.int (nI 4) :: st) h := (zXq (op := oPush 4 41) zT_53 rfl).trans rfl
theorem q53_41 (d : Nat) (lo : zL) (st : List Value) (h : zH) : zXf zT znl d 53 41 lo st h = zB zT znl d 53 (oIald 42 lo st h) := zXq (op := oIald 42) zT_53 rfl
theorem q53_42 (d : Nat) (lo : zL) (st : List Value) (h : zH) : zXf zT znl d 53 42 lo st h = zB zT znl d 53 (oIast 43 lo st h) := zXq (op := oIast 43) zT_53 rfl
theorem q53_43 (d : Nat) (x : Nat) (l : zL) (st : List Value) (h : zH) : zXf zT znl d 53 43 (.ref x :: l) st h = zXf zT znl d 53 44 (.ref x :: l) (.ref x :: st) h := (zXq (op := oAl 0 44) zT_53 rfl).trans rfl
theorem q53_44 (d : Nat) (lo : zL) (st : List Value) (h : zH) : zXf zT znl d 53 44 lo st h = zB zT znl d 53 (oGf 5 5 47 lo st h) := zXq (op := oGf 5 5 47) zT_53 rfl
theorem q53_47 (d : Nat) (lo : zL) (st : List Value) (h : zH) : zXf zT znl d 53 47 lo st h = zXf zT znl d 53 48 lo (.int (nI 3) :: st) h := (zXq (op := oPush 3 48) zT_53 rfl).trans rfl
theorem q53_48 (d : Nat) (a0 : Value) (x : Nat) (l : zL) (st : List Value) (h : zH) : zXf zT znl d 53 48 (a0 :: .ref x :: l) st h = zXf zT znl d 53 49 (a0 :: .ref x :: l) (.ref x :: st) h := (zXq (op := oAl 1 49) zT_53 rfl).trans rfl
theorem q53_49 (d : Nat) (lo : zL) (st : List Value) (h : zH) : zXf zT znl d 53 49 lo st h = zXf zT znl d 53 50 lo (.int (nI 5) :: st) h := (zXq (op := oPush 5 50) zT_53 rfl).trans rfl
theorem q53_50 (d : Nat) (lo : zL) (st : List Value) (h : zH) : zXf zT znl d 53 50 lo st h = zB zT znl d 53 (oIald 51 lo st h) := zXq (op := oIald 51) zT_53 rfl
theorem q53_51 (d : Nat) (lo : zL) (st : List Value) (h : zH) : zXf zT znl d 53 51 lo st h = zB zT znl d 53 (oIast 52 lo st h) := zXq (op := oIast 52) zT_53 rfl
theorem q53_52 (d : Nat) (x : Nat) (l : zL) (st : List Value) (h : zH) : zXf zT znl d 53 52 (.ref x :: l) st h = zXf zT znl d 53 53 (.ref x :: l) (.ref x :: st) h := (zXq (op := oAl 0 53) zT_53 rfl).trans rfl
theorem q53_53 (d : Nat) (lo : zL) (st : List Value) (h : zH) : zXf zT znl d 53 53 lo st h = zB zT znl d 53 (oGf 5 5 56 lo st h) := zXq (op := oGf 5 5 56) zT_53 rfl
theorem q53_56 (d : Nat) (lo : zL) (st : List Value) (h : zH) : zXf zT znl d 53 56 lo st h = zXf zT znl d 53 57 lo (.int (nI 4) :: st) h := (zXq (op := oPush 4 57) zT_53 rfl).trans rfl
theorem q53_57 (d : Nat) (x : Nat) (l : zL) (st : List Value) (h : zH) : zXf zT znl d 53 57 (.ref x :: l) st h = zXf zT znl d 53 58 (.ref x :: l) (.ref x :: st) h := (zXq (op := oAl 0 58) zT_53 rfl).trans rfl
theorem q53_58 (d : Nat) (lo : zL) (st : List Value) (h : zH) : zXf zT znl d 53 58 lo st h = zB zT znl d 53 (oGf 5 10 61 lo st h) := zXq (op := oGf 5 10 61) zT_53 rfl
theorem q53_61 (d : Nat) (lo : zL) (st : List Value) (h : zH) : zXf zT znl d 53 61 lo st h = zB zT znl d 53 (oIast 62 lo st h) := zXq (op := oIast 62) zT_53 rfl
theorem q53_62 (d : Nat) (x : Nat) (l : zL) (st : List Value) (h : zH) : zXf zT znl d 53 62 (.ref x :: l) st h = zXf zT znl d 53 63 (.ref x :: l) (.ref x :: st) h := (zXq (op := oAl 0 63) zT_53 rfl).trans rfl
theorem q53_63 (d : Nat) (lo : zL) (st : List Value) (h : zH) : zXf zT znl d 53 63 lo st h = zB zT znl d 53 (oGf 5 3 66 lo st h) := zXq (op := oGf 5 3 66) zT_53 rfl
theorem q53_66 (d : Nat) (x : Nat) (l : zL) (st : List Value) (h : zH) : zXf zT znl d 53 66 (.ref x :: l) st h = zXf zT znl d 53 67 (.ref x :: l) (.ref x :: st) h := (zXq (op := oAl 0 67) zT_53 rfl).trans rfl
theorem q53_67 (d : Nat) (lo : zL) (st : List Value) (h : zH) : zXf zT znl d 53 67 lo st h = zB zT znl d 53 (oGf 5 5 70 lo st h) := zXq (op := oGf 5 5 70) zT_53 rfl
theorem q53_70 (d : Nat) (lo : zL) (x0 x1 : Value) (h : zH) (hr : zrc 4 [x0, x1] = true) : zXf zT znl d 53 70 lo [x1, x0] h = (zCf zT znl d 83 [x0, x1] h).bind fun o => zXf zT znl d 53 73 lo (o.1.toList ++ []) o.2 := (zXq (op := oC2 4 83 73) zT_53 rfl).trans (zB_cl rfl hr)
theorem q53_73 (d : Nat) (lo : zL) (x : Int32) (h : zH) : zXf zT znl d 53 73 lo [.int x] h = some (some (.int x), h) := (zXq (op := oIret) zT_53 rfl).trans rfl
theorem q54_0 (d : Nat) (a0 : Value) (x : Int32) (l : zL) (st : List Value) (h : zH) : zXf zT znl d 54 0 (a0 :: .int x :: l) st h = zXf zT znl d 54 1 (a0 :: .int x :: l) (.int x :: st) h := (zXq (op := oIl 1 1) zT_54 rfl).trans rfl
theorem q54_1 (d : Nat) (lo : zL) (x : Int32) (st : List Value) (h : zH) : zXf zT znl d 54 1 lo (.int x :: st) h = if x < nI 0 then zXf zT znl d 54 20 lo st h else zXf zT znl d 54 4 lo st h := (zXq (op := oLt0 20 4) zT_54 rfl).trans (zB_if _ _)
theorem q54_4 (d : Nat) (a0 : Value) (x : Int32) (l : zL) (st : List Value) (h : zH) : zXf zT znl d 54 4 (a0 :: .int x :: l) st h = zXf zT znl d 54 5 (a0 :: .int x :: l) (.int x :: st) h := (zXq (op := oIl 1 5) zT_54 rfl).trans rfl
theorem q54_5 (d : Nat) (lo : zL) (st : List Value) (h : zH) : zXf zT znl d 54 5 lo st h = zXf zT znl d 54 7 lo (.int (nI 80) :: st) h := (zXq (op := oPush 80 7) zT_54 rfl).trans rfl
theorem q54_7 (d : Nat) (lo : zL) (x y : Int32) (st : List Value) (h : zH) : zXf zT znl d 54 7 lo (.int y :: .int x :: st) h = if y ≤ x then zXf zT znl d 54 20 lo st h else zXf zT znl d 54 10 lo st h := (zXq (op := oCGe 20 10) zT_54 rfl).trans (zB_if _ _)
theorem q54_10 (d : Nat) (x : Nat) (l : zL) (st : List Value) (h : zH) : zXf zT znl d 54 10 (.ref x :: l) st h = zXf zT znl d 54 11 (.ref x :: l) (.ref x :: st) h := (zXq (op := oAl 0 11) zT_54 rfl).trans rfl
theorem q54_11 (d : Nat) (lo : zL) (st : List Value) (h : zH) : zXf zT znl d 54 11 lo st h = zB zT znl d 54 (oGf 5 0 14 lo st h) := zXq (op := oGf 5 0 14) zT_54 rfl
theorem q54_14 (d : Nat) (a0 : Value) (x : Int32) (l : zL) (st : List Value) (h : zH) : zXf zT znl d 54 14 (a0 :: .int x :: l) st h = zXf zT znl d 54 15 (a0 :: .int x :: l) (.int x :: st) h := (zXq (op := oIl 1 15) zT_54 rfl).trans rfl
theorem q54_15 (d : Nat) (lo : zL) (st : List Value) (h : zH) : zXf zT znl d 54 15 lo st h = zB zT znl d 54 (oIald 16 lo st h) := zXq (op := oIald 16) zT_54 rfl
theorem q54_16 (d : Nat) (lo : zL) (st : List Value) (h : zH) : zXf zT znl d 54 16 lo st h = zXf zT znl d 54 17 lo (.int (nI 1) :: st) h := (zXq (op := oPush 1 17) zT_54 rfl).trans rfl
theorem q54_17 (d : Nat) (lo : zL) (x y : Int32) (st : List Value) (h : zH) : zXf zT znl d 54 17 lo (.int y :: .int x :: st) h = if x = y then zXf zT znl d 54 20 lo st h else zXf zT znl d 54 24 lo st h := (zXq (op := oCNe 24 20) zT_54 rfl).trans (zB_if _ _)
theorem q54_20 (d : Nat) (lo : zL) (st : List Value) (h : zH) : zXf zT znl d 54 20 lo st h = zXf zT znl d 54 21 lo (.int (nI 1) :: st) h := (zXq (op := oPush 1 21) zT_54 rfl).trans rfl
theorem q54_21 (d : Nat) (lo : zL) (st : List Value) (h : zH) : zXf zT znl d 54 21 lo st h = zXf zT znl d 54 25 lo st h := (zXq (op := oGoto 25) zT_54 rfl).trans rfl
theorem q54_24 (d : Nat) (lo : zL) (st : List Value) (h : zH) : zXf zT znl d 54 24 lo st h = zXf zT znl d 54 25 lo (.int (nI 0) :: st) h := (zXq (op := oPush 0 25) zT_54 rfl).trans rfl
theorem q54_25 (d : Nat) (lo : zL) (x : Int32) (h : zH) (hx : x = 0 ∨ x = 1) : zXf zT znl d 54 25 lo [.int x] h = some (some (.int x), h) := by
  refine (zXq (op := oZret) zT_54 rfl).trans ?_
  simp only [oZret, if_pos hx, zB_end]
theorem q55_0 (d : Nat) (a0 : Value) (a1 : Value) (x : Int32) (l : zL) (st : List Value) (h : zH) : zXf zT znl d 55 0 (a0 :: a1 :: .int x :: l) st h = zXf zT znl d 55 1 (a0 :: a1 :: .int x :: l) (.int x :: st) h := (zXq (op := oIl 2 1) zT_55 rfl).trans rfl
theorem q55_1 (d : Nat) (lo : zL) (st : List Value) (h : zH) : zXf zT znl d 55 1 lo st h = zXf zT znl d 55 3 lo (.int (nI 10) :: st) h := (zXq (op := oPush 10 3) zT_55 rfl).trans rfl
theorem q55_3 (d : Nat) (lo : zL) (x y : Int32) (st : List Value) (h : zH) (hy : ¬ y = 0) : zXf zT znl d 55 3 lo (.int y :: .int x :: st) h = zXf zT znl d 55 4 lo (.int (x % y) :: st) h := by
  refine (zXq (op := oRem 4) zT_55 rfl).trans ?_
  simp only [oRem, if_neg hy, zB_go]
theorem q55_4 (d : Nat) (a0 : Value) (x : Int32) (l : zL) (st : List Value) (h : zH) : zXf zT znl d 55 4 (a0 :: .int x :: l) st h = zXf zT znl d 55 5 (a0 :: .int x :: l) (.int x :: st) h := (zXq (op := oIl 1 5) zT_55 rfl).trans rfl
theorem q55_5 (d : Nat) (lo : zL) (st : List Value) (h : zH) : zXf zT znl d 55 5 lo st h = zXf zT znl d 55 7 lo (.int (nI 10) :: st) h := (zXq (op := oPush 10 7) zT_55 rfl).trans rfl
theorem q55_7 (d : Nat) (lo : zL) (x y : Int32) (st : List Value) (h : zH) (hy : ¬ y = 0) : zXf zT znl d 55 7 lo (.int y :: .int x :: st) h = zXf zT znl d 55 8 lo (.int (x % y) :: st) h := by
  refine (zXq (op := oRem 8) zT_55 rfl).trans ?_
  simp only [oRem, if_neg hy, zB_go]
theorem q55_8 (d : Nat) (lo : zL) (x y : Int32) (st : List Value) (h : zH) : zXf zT znl d 55 8 lo (.int y :: .int x :: st) h = zXf zT znl d 55 9 lo (.int (x - y) :: st) h := (zXq (op := oBin (fun x y => x - y) 9) zT_55 rfl).trans rfl
theorem q55_9 (d : Nat) (a0 : Value) (a1 : Value) (a2 : Value) (a3 : Value) (a4 : Value) (x : Int32) (l : zL) (st : List Value) (h : zH) (hz : zokv a3 = true) : zXf zT znl d 55 9 (a0 :: a1 :: a2 :: a3 :: a4 :: l) (.int x :: st) h = zXf zT znl d 55 11 (a0 :: a1 :: a2 :: a3 :: .int x :: l) st h := by
  refine (zXq (op := oIs 4 11) zT_55 rfl).trans ?_
  simp only [oIs, zok, hz, Bool.and_self, if_true, List.set_cons_succ, List.set_cons_zero, zB_go]
theorem q55_11 (d : Nat) (a0 : Value) (a1 : Value) (x : Int32) (l : zL) (st : List Value) (h : zH) : zXf zT znl d 55 11 (a0 :: a1 :: .int x :: l) st h = zXf zT znl d 55 12 (a0 :: a1 :: .int x :: l) (.int x :: st) h := (zXq (op := oIl 2 12) zT_55 rfl).trans rfl
theorem q55_12 (d : Nat) (lo : zL) (st : List Value) (h : zH) : zXf zT znl d 55 12 lo st h = zXf zT znl d 55 14 lo (.int (nI 10) :: st) h := (zXq (op := oPush 10 14) zT_55 rfl).trans rfl
theorem q55_14 (d : Nat) (lo : zL) (x y : Int32) (st : List Value) (h : zH) (hy : ¬ y = 0) : zXf zT znl d 55 14 lo (.int y :: .int x :: st) h = zXf zT znl d 55 15 lo (.int (x / y) :: st) h := by
  refine (zXq (op := oDiv 15) zT_55 rfl).trans ?_
  simp only [oDiv, if_neg hy, zB_go]
theorem q55_15 (d : Nat) (a0 : Value) (x : Int32) (l : zL) (st : List Value) (h : zH) : zXf zT znl d 55 15 (a0 :: .int x :: l) st h = zXf zT znl d 55 16 (a0 :: .int x :: l) (.int x :: st) h := (zXq (op := oIl 1 16) zT_55 rfl).trans rfl
theorem q55_16 (d : Nat) (lo : zL) (st : List Value) (h : zH) : zXf zT znl d 55 16 lo st h = zXf zT znl d 55 18 lo (.int (nI 10) :: st) h := (zXq (op := oPush 10 18) zT_55 rfl).trans rfl
theorem q55_18 (d : Nat) (lo : zL) (x y : Int32) (st : List Value) (h : zH) (hy : ¬ y = 0) : zXf zT znl d 55 18 lo (.int y :: .int x :: st) h = zXf zT znl d 55 19 lo (.int (x / y) :: st) h := by
  refine (zXq (op := oDiv 19) zT_55 rfl).trans ?_
  simp only [oDiv, if_neg hy, zB_go]
theorem q55_19 (d : Nat) (lo : zL) (x y : Int32) (st : List Value) (h : zH) : zXf zT znl d 55 19 lo (.int y :: .int x :: st) h = zXf zT znl d 55 20 lo (.int (x - y) :: st) h := (zXq (op := oBin (fun x y => x - y) 20) zT_55 rfl).trans rfl
theorem q55_20 (d : Nat) (a0 : Value) (a1 : Value) (a2 : Value) (a3 : Value) (a4 : Value) (a5 : Value) (x : Int32) (l : zL) (st : List Value) (h : zH) (hz : zokv a4 = true) : zXf zT znl d 55 20 (a0 :: a1 :: a2 :: a3 :: a4 :: a5 :: l) (.int x :: st) h = zXf zT znl d 55 22 (a0 :: a1 :: a2 :: a3 :: a4 :: .int x :: l) st h := by
  refine (zXq (op := oIs 5 22) zT_55 rfl).trans ?_
  simp only [oIs, zok, hz, Bool.and_self, if_true, List.set_cons_succ, List.set_cons_zero, zB_go]
theorem q55_22 (d : Nat) (a0 : Value) (x : Int32) (l : zL) (st : List Value) (h : zH) : zXf zT znl d 55 22 (a0 :: .int x :: l) st h = zXf zT znl d 55 23 (a0 :: .int x :: l) (.int x :: st) h := (zXq (op := oIl 1 23) zT_55 rfl).trans rfl
theorem q55_23 (d : Nat) (a0 : Value) (a1 : Value) (a2 : Value) (a3 : Value) (x : Int32) (l : zL) (st : List Value) (h : zH) : zXf zT znl d 55 23 (a0 :: a1 :: a2 :: a3 :: .int x :: l) st h = zXf zT znl d 55 25 (a0 :: a1 :: a2 :: a3 :: .int x :: l) (.int x :: st) h := (zXq (op := oIl 4 25) zT_55 rfl).trans rfl
theorem q55_25 (d : Nat) (lo : zL) (x0 s0 : Value) (h : zH) : zXf zT znl d 55 25 lo [x0, s0] h = (zCf zT znl d 2 [x0] h).bind fun o => zXf zT znl d 55 28 lo (o.1.toList ++ [s0]) o.2 := (zXq (op := oC1 98 2 28) zT_55 rfl).trans (zB_cl rfl rfl)
theorem q55_28 (d : Nat) (lo : zL) (x y : Int32) (st : List Value) (h : zH) : zXf zT znl d 55 28 lo (.int y :: .int x :: st) h = zXf zT znl d 55 29 lo (.int (x + y) :: st) h := (zXq (op := oBin (fun x y => x + y) 29) zT_55 rfl).trans rfl
theorem q55_29 (d : Nat) (a0 : Value) (a1 : Value) (a2 : Value) (a3 : Value) (a4 : Value) (a5 : Value) (a6 : Value) (x : Int32) (l : zL) (st : List Value) (h : zH) (hz : zokv a5 = true) : zXf zT znl d 55 29 (a0 :: a1 :: a2 :: a3 :: a4 :: a5 :: a6 :: l) (.int x :: st) h = zXf zT znl d 55 31 (a0 :: a1 :: a2 :: a3 :: a4 :: a5 :: .int x :: l) st h := by
  refine (zXq (op := oIs 6 31) zT_55 rfl).trans ?_
  simp only [oIs, zok, hz, Bool.and_self, if_true, List.set_cons_succ, List.set_cons_zero, zB_go]
theorem q55_31 (d : Nat) (a0 : Value) (x : Int32) (l : zL) (st : List Value) (h : zH) : zXf zT znl d 55 31 (a0 :: .int x :: l) st h = zXf zT znl d 55 32 (a0 :: .int x :: l) (.int x :: st) h := (zXq (op := oIl 1 32) zT_55 rfl).trans rfl
theorem q55_32 (d : Nat) (lo : zL) (st : List Value) (h : zH) : zXf zT znl d 55 32 lo st h = zXf zT znl d 55 34 lo (.int (nI 10) :: st) h := (zXq (op := oPush 10 34) zT_55 rfl).trans rfl
theorem q55_34 (d : Nat) (a0 : Value) (a1 : Value) (a2 : Value) (a3 : Value) (a4 : Value) (x : Int32) (l : zL) (st : List Value) (h : zH) : zXf zT znl d 55 34 (a0 :: a1 :: a2 :: a3 :: a4 :: .int x :: l) st h = zXf zT znl d 55 36 (a0 :: a1 :: a2 :: a3 :: a4 :: .int x :: l) (.int x :: st) h := (zXq (op := oIl 5 36) zT_55 rfl).trans rfl
theorem q55_36 (d : Nat) (lo : zL) (x0 s0 s1 : Value) (h : zH) : zXf zT znl d 55 36 lo [x0, s0, s1] h = (zCf zT znl d 2 [x0] h).bind fun o => zXf zT znl d 55 39 lo (o.1.toList ++ [s0, s1]) o.2 := (zXq (op := oC1 98 2 39) zT_55 rfl).trans (zB_cl rfl rfl)
theorem q55_39 (d : Nat) (lo : zL) (x y : Int32) (st : List Value) (h : zH) : zXf zT znl d 55 39 lo (.int y :: .int x :: st) h = zXf zT znl d 55 40 lo (.int (x * y) :: st) h := (zXq (op := oBin (fun x y => x * y) 40) zT_55 rfl).trans rfl
theorem q55_40 (d : Nat) (lo : zL) (x y : Int32) (st : List Value) (h : zH) : zXf zT znl d 55 40 lo (.int y :: .int x :: st) h = zXf zT znl d 55 41 lo (.int (x + y) :: st) h := (zXq (op := oBin (fun x y => x + y) 41) zT_55 rfl).trans rfl
theorem q55_41 (d : Nat) (a0 : Value) (a1 : Value) (a2 : Value) (a3 : Value) (a4 : Value) (a5 : Value) (a6 : Value) (a7 : Value) (x : Int32) (l : zL) (st : List Value) (h : zH) (hz : zokv a6 = true) : zXf zT znl d 55 41 (a0 :: a1 :: a2 :: a3 :: a4 :: a5 :: a6 :: a7 :: l) (.int x :: st) h = zXf zT znl d 55 43 (a0 :: a1 :: a2 :: a3 :: a4 :: a5 :: a6 :: .int x :: l) st h := by
  refine (zXq (op := oIs 7 43) zT_55 rfl).trans ?_
  simp only [oIs, zok, hz, Bool.and_self, if_true, List.set_cons_succ, List.set_cons_zero, zB_go]
theorem q55_43 (d : Nat) (a0 : Value) (a1 : Value) (a2 : Value) (a3 : Value) (x : Int32) (l : zL) (st : List Value) (h : zH) : zXf zT znl d 55 43 (a0 :: a1 :: a2 :: a3 :: .int x :: l) st h = zXf zT znl d 55 45 (a0 :: a1 :: a2 :: a3 :: .int x :: l) (.int x :: st) h := (zXq (op := oIl 4 45) zT_55 rfl).trans rfl
theorem q55_45 (d : Nat) (lo : zL) (x0 : Value) (h : zH) : zXf zT znl d 55 45 lo [x0] h = (zCf zT znl d 204 [x0] h).bind fun o => zXf zT znl d 55 48 lo (o.1.toList ++ []) o.2 := (zXq (op := oC1 98 204 48) zT_55 rfl).trans (zB_cl rfl rfl)
theorem q55_48 (d : Nat) (a0 : Value) (a1 : Value) (a2 : Value) (a3 : Value) (a4 : Value) (x : Int32) (l : zL) (st : List Value) (h : zH) : zXf zT znl d 55 48 (a0 :: a1 :: a2 :: a3 :: a4 :: .int x :: l) st h = zXf zT znl d 55 50 (a0 :: a1 :: a2 :: a3 :: a4 :: .int x :: l) (.int x :: st) h := (zXq (op := oIl 5 50) zT_55 rfl).trans rfl
theorem q55_50 (d : Nat) (lo : zL) (x0 s0 : Value) (h : zH) : zXf zT znl d 55 50 lo [x0, s0] h = (zCf zT znl d 204 [x0] h).bind fun o => zXf zT znl d 55 53 lo (o.1.toList ++ [s0]) o.2 := (zXq (op := oC1 98 204 53) zT_55 rfl).trans (zB_cl rfl rfl)
theorem q55_53 (d : Nat) (lo : zL) (x y : Int32) (st : List Value) (h : zH) : zXf zT znl d 55 53 lo (.int y :: .int x :: st) h = if x < y then zXf zT znl d 55 60 lo st h else zXf zT znl d 55 56 lo st h := (zXq (op := oCLt 60 56) zT_55 rfl).trans (zB_if _ _)
theorem q55_56 (d : Nat) (lo : zL) (st : List Value) (h : zH) : zXf zT znl d 55 56 lo st h = zXf zT znl d 55 57 lo (.int (nI 1) :: st) h := (zXq (op := oPush 1 57) zT_55 rfl).trans rfl
theorem q55_57 (d : Nat) (lo : zL) (st : List Value) (h : zH) : zXf zT znl d 55 57 lo st h = zXf zT znl d 55 61 lo st h := (zXq (op := oGoto 61) zT_55 rfl).trans rfl
theorem q55_60 (d : Nat) (lo : zL) (st : List Value) (h : zH) : zXf zT znl d 55 60 lo st h = zXf zT znl d 55 61 lo (.int (nI 0) :: st) h := (zXq (op := oPush 0 61) zT_55 rfl).trans rfl
theorem q55_61 (d : Nat) (a0 : Value) (a1 : Value) (a2 : Value) (a3 : Value) (a4 : Value) (a5 : Value) (a6 : Value) (a7 : Value) (a8 : Value) (x : Int32) (l : zL) (st : List Value) (h : zH) (hz : zokv a7 = true) : zXf zT znl d 55 61 (a0 :: a1 :: a2 :: a3 :: a4 :: a5 :: a6 :: a7 :: a8 :: l) (.int x :: st) h = zXf zT znl d 55 63 (a0 :: a1 :: a2 :: a3 :: a4 :: a5 :: a6 :: a7 :: .int x :: l) st h := by
  refine (zXq (op := oIs 8 63) zT_55 rfl).trans ?_
  simp only [oIs, zok, hz, Bool.and_self, if_true, List.set_cons_succ, List.set_cons_zero, zB_go]
theorem q55_63 (d : Nat) (a0 : Value) (a1 : Value) (a2 : Value) (a3 : Value) (a4 : Value) (a5 : Value) (a6 : Value) (a7 : Value) (x : Int32) (l : zL) (st : List Value) (h : zH) : zXf zT znl d 55 63 (a0 :: a1 :: a2 :: a3 :: a4 :: a5 :: a6 :: a7 :: .int x :: l) st h = zXf zT znl d 55 65 (a0 :: a1 :: a2 :: a3 :: a4 :: a5 :: a6 :: a7 :: .int x :: l) (.int x :: st) h := (zXq (op := oIl 8 65) zT_55 rfl).trans rfl
theorem q55_65 (d : Nat) (lo : zL) (x : Int32) (st : List Value) (h : zH) : zXf zT znl d 55 65 lo (.int x :: st) h = if x = nI 0 then zXf zT znl d 55 73 lo st h else zXf zT znl d 55 68 lo st h := (zXq (op := oEq0 73 68) zT_55 rfl).trans (zB_if _ _)
theorem q55_68 (d : Nat) (a0 : Value) (a1 : Value) (a2 : Value) (a3 : Value) (a4 : Value) (a5 : Value) (x : Int32) (l : zL) (st : List Value) (h : zH) : zXf zT znl d 55 68 (a0 :: a1 :: a2 :: a3 :: a4 :: a5 :: .int x :: l) st h = zXf zT znl d 55 70 (a0 :: a1 :: a2 :: a3 :: a4 :: a5 :: .int x :: l) (.int x :: st) h := (zXq (op := oIl 6 70) zT_55 rfl).trans rfl
theorem q55_70 (d : Nat) (lo : zL) (st : List Value) (h : zH) : zXf zT znl d 55 70 lo st h = zXf zT znl d 55 75 lo st h := (zXq (op := oGoto 75) zT_55 rfl).trans rfl
theorem q55_73 (d : Nat) (a0 : Value) (a1 : Value) (a2 : Value) (a3 : Value) (a4 : Value) (a5 : Value) (a6 : Value) (x : Int32) (l : zL) (st : List Value) (h : zH) : zXf zT znl d 55 73 (a0 :: a1 :: a2 :: a3 :: a4 :: a5 :: a6 :: .int x :: l) st h = zXf zT znl d 55 75 (a0 :: a1 :: a2 :: a3 :: a4 :: a5 :: a6 :: .int x :: l) (.int x :: st) h := (zXq (op := oIl 7 75) zT_55 rfl).trans rfl
theorem q55_75 (d : Nat) (a0 : Value) (a1 : Value) (a2 : Value) (a3 : Value) (a4 : Value) (a5 : Value) (a6 : Value) (a7 : Value) (a8 : Value) (a9 : Value) (x : Int32) (l : zL) (st : List Value) (h : zH) (hz : zokv a8 = true) : zXf zT znl d 55 75 (a0 :: a1 :: a2 :: a3 :: a4 :: a5 :: a6 :: a7 :: a8 :: a9 :: l) (.int x :: st) h = zXf zT znl d 55 77 (a0 :: a1 :: a2 :: a3 :: a4 :: a5 :: a6 :: a7 :: a8 :: .int x :: l) st h := by
  refine (zXq (op := oIs 9 77) zT_55 rfl).trans ?_
  simp only [oIs, zok, hz, Bool.and_self, if_true, List.set_cons_succ, List.set_cons_zero, zB_go]
theorem q55_77 (d : Nat) (a0 : Value) (a1 : Value) (a2 : Value) (a3 : Value) (a4 : Value) (a5 : Value) (a6 : Value) (a7 : Value) (x : Int32) (l : zL) (st : List Value) (h : zH) : zXf zT znl d 55 77 (a0 :: a1 :: a2 :: a3 :: a4 :: a5 :: a6 :: a7 :: .int x :: l) st h = zXf zT znl d 55 79 (a0 :: a1 :: a2 :: a3 :: a4 :: a5 :: a6 :: a7 :: .int x :: l) (.int x :: st) h := (zXq (op := oIl 8 79) zT_55 rfl).trans rfl
theorem q55_79 (d : Nat) (lo : zL) (x : Int32) (st : List Value) (h : zH) : zXf zT znl d 55 79 lo (.int x :: st) h = if x = nI 0 then zXf zT znl d 55 87 lo st h else zXf zT znl d 55 82 lo st h := (zXq (op := oEq0 87 82) zT_55 rfl).trans (zB_if _ _)
theorem q55_82 (d : Nat) (a0 : Value) (a1 : Value) (a2 : Value) (a3 : Value) (a4 : Value) (a5 : Value) (a6 : Value) (x : Int32) (l : zL) (st : List Value) (h : zH) : zXf zT znl d 55 82 (a0 :: a1 :: a2 :: a3 :: a4 :: a5 :: a6 :: .int x :: l) st h = zXf zT znl d 55 84 (a0 :: a1 :: a2 :: a3 :: a4 :: a5 :: a6 :: .int x :: l) (.int x :: st) h := (zXq (op := oIl 7 84) zT_55 rfl).trans rfl
theorem q55_84 (d : Nat) (lo : zL) (st : List Value) (h : zH) : zXf zT znl d 55 84 lo st h = zXf zT znl d 55 89 lo st h := (zXq (op := oGoto 89) zT_55 rfl).trans rfl
theorem q55_87 (d : Nat) (a0 : Value) (a1 : Value) (a2 : Value) (a3 : Value) (a4 : Value) (a5 : Value) (x : Int32) (l : zL) (st : List Value) (h : zH) : zXf zT znl d 55 87 (a0 :: a1 :: a2 :: a3 :: a4 :: a5 :: .int x :: l) st h = zXf zT znl d 55 89 (a0 :: a1 :: a2 :: a3 :: a4 :: a5 :: .int x :: l) (.int x :: st) h := (zXq (op := oIl 6 89) zT_55 rfl).trans rfl
theorem q55_89 (d : Nat) (a0 : Value) (a1 : Value) (a2 : Value) (a3 : Value) (a4 : Value) (a5 : Value) (a6 : Value) (a7 : Value) (a8 : Value) (a9 : Value) (a10 : Value) (x : Int32) (l : zL) (st : List Value) (h : zH) (hz : zokv a9 = true) : zXf zT znl d 55 89 (a0 :: a1 :: a2 :: a3 :: a4 :: a5 :: a6 :: a7 :: a8 :: a9 :: a10 :: l) (.int x :: st) h = zXf zT znl d 55 91 (a0 :: a1 :: a2 :: a3 :: a4 :: a5 :: a6 :: a7 :: a8 :: a9 :: .int x :: l) st h := by
  refine (zXq (op := oIs 10 91) zT_55 rfl).trans ?_
  simp only [oIs, zok, hz, Bool.and_self, if_true, List.set_cons_succ, List.set_cons_zero, zB_go]
theorem q55_91 (d : Nat) (a0 : Value) (a1 : Value) (a2 : Value) (a3 : Value) (a4 : Value) (a5 : Value) (a6 : Value) (a7 : Value) (a8 : Value) (x : Int32) (l : zL) (st : List Value) (h : zH) : zXf zT znl d 55 91 (a0 :: a1 :: a2 :: a3 :: a4 :: a5 :: a6 :: a7 :: a8 :: .int x :: l) st h = zXf zT znl d 55 93 (a0 :: a1 :: a2 :: a3 :: a4 :: a5 :: a6 :: a7 :: a8 :: .int x :: l) (.int x :: st) h := (zXq (op := oIl 9 93) zT_55 rfl).trans rfl
theorem q55_93 (d : Nat) (a0 : Value) (x : Int32) (l : zL) (st : List Value) (h : zH) : zXf zT znl d 55 93 (a0 :: .int x :: l) st h = zXf zT znl d 55 94 (a0 :: .int x :: l) (.int x :: st) h := (zXq (op := oIl 1 94) zT_55 rfl).trans rfl
theorem q55_94 (d : Nat) (lo : zL) (x y : Int32) (st : List Value) (h : zH) : zXf zT znl d 55 94 lo (.int y :: .int x :: st) h = if x = y then zXf zT znl d 55 113 lo st h else zXf zT znl d 55 97 lo st h := (zXq (op := oCEq 113 97) zT_55 rfl).trans (zB_if _ _)
theorem q55_97 (d : Nat) (a0 : Value) (a1 : Value) (a2 : Value) (x : Int32) (l : zL) (st : List Value) (h : zH) : zXf zT znl d 55 97 (a0 :: a1 :: a2 :: .int x :: l) st h = zXf zT znl d 55 98 (a0 :: a1 :: a2 :: .int x :: l) (.int x :: st) h := (zXq (op := oIl 3 98) zT_55 rfl).trans rfl
theorem q55_98 (d : Nat) (lo : zL) (x : Int32) (st : List Value) (h : zH) : zXf zT znl d 55 98 lo (.int x :: st) h = if x = nI 0 then zXf zT znl d 55 101 lo st h else zXf zT znl d 55 110 lo st h := (zXq (op := oNe0 110 101) zT_55 rfl).trans (zB_if _ _)
theorem q55_101 (d : Nat) (x : Nat) (l : zL) (st : List Value) (h : zH) : zXf zT znl d 55 101 (.ref x :: l) st h = zXf zT znl d 55 102 (.ref x :: l) (.ref x :: st) h := (zXq (op := oAl 0 102) zT_55 rfl).trans rfl
theorem q55_102 (d : Nat) (a0 : Value) (a1 : Value) (a2 : Value) (a3 : Value) (a4 : Value) (a5 : Value) (a6 : Value) (a7 : Value) (a8 : Value) (x : Int32) (l : zL) (st : List Value) (h : zH) : zXf zT znl d 55 102 (a0 :: a1 :: a2 :: a3 :: a4 :: a5 :: a6 :: a7 :: a8 :: .int x :: l) st h = zXf zT znl d 55 104 (a0 :: a1 :: a2 :: a3 :: a4 :: a5 :: a6 :: a7 :: a8 :: .int x :: l) (.int x :: st) h := (zXq (op := oIl 9 104) zT_55 rfl).trans rfl
theorem q55_104 (d : Nat) (lo : zL) (x0 x1 : Value) (h : zH) (hr : zrc 5 [x0, x1] = true) : zXf zT znl d 55 104 lo [x1, x0] h = (zCf zT znl d 54 [x0, x1] h).bind fun o => zXf zT znl d 55 107 lo (o.1.toList ++ []) o.2 := (zXq (op := oC2 5 54 107) zT_55 rfl).trans (zB_cl rfl hr)
theorem q55_107 (d : Nat) (lo : zL) (x : Int32) (st : List Value) (h : zH) : zXf zT znl d 55 107 lo (.int x :: st) h = if x = nI 0 then zXf zT znl d 55 110 lo st h else zXf zT znl d 55 113 lo st h := (zXq (op := oNe0 113 110) zT_55 rfl).trans (zB_if _ _)
theorem q55_110 (d : Nat) (a0 : Value) (a1 : Value) (a2 : Value) (a3 : Value) (a4 : Value) (a5 : Value) (a6 : Value) (a7 : Value) (a8 : Value) (x : Int32) (l : zL) (st : List Value) (h : zH) : zXf zT znl d 55 110 (a0 :: a1 :: a2 :: a3 :: a4 :: a5 :: a6 :: a7 :: a8 :: .int x :: l) st h = zXf zT znl d 55 112 (a0 :: a1 :: a2 :: a3 :: a4 :: a5 :: a6 :: a7 :: a8 :: .int x :: l) (.int x :: st) h := (zXq (op := oIl 9 112) zT_55 rfl).trans rfl
theorem q55_112 (d : Nat) (lo : zL) (x : Int32) (h : zH) : zXf zT znl d 55 112 lo [.int x] h = some (some (.int x), h) := (zXq (op := oIret) zT_55 rfl).trans rfl
theorem q55_113 (d : Nat) (a0 : Value) (a1 : Value) (a2 : Value) (a3 : Value) (a4 : Value) (a5 : Value) (a6 : Value) (a7 : Value) (a8 : Value) (a9 : Value) (x : Int32) (l : zL) (st : List Value) (h : zH) : zXf zT znl d 55 113 (a0 :: a1 :: a2 :: a3 :: a4 :: a5 :: a6 :: a7 :: a8 :: a9 :: .int x :: l) st h = zXf zT znl d 55 115 (a0 :: a1 :: a2 :: a3 :: a4 :: a5 :: a6 :: a7 :: a8 :: a9 :: .int x :: l) (.int x :: st) h := (zXq (op := oIl 10 115) zT_55 rfl).trans rfl
theorem q55_115 (d : Nat) (a0 : Value) (x : Int32) (l : zL) (st : List Value) (h : zH) : zXf zT znl d 55 115 (a0 :: .int x :: l) st h = zXf zT znl d 55 116 (a0 :: .int x :: l) (.int x :: st) h := (zXq (op := oIl 1 116) zT_55 rfl).trans rfl
theorem q55_116 (d : Nat) (lo : zL) (x y : Int32) (st : List Value) (h : zH) : zXf zT znl d 55 116 lo (.int y :: .int x :: st) h = if x = y then zXf zT znl d 55 135 lo st h else zXf zT znl d 55 119 lo st h := (zXq (op := oCEq 135 119) zT_55 rfl).trans (zB_if _ _)
theorem q55_119 (d : Nat) (a0 : Value) (a1 : Value) (a2 : Value) (x : Int32) (l : zL) (st : List Value) (h : zH) : zXf zT znl d 55 119 (a0 :: a1 :: a2 :: .int x :: l) st h = zXf zT znl d 55 120 (a0 :: a1 :: a2 :: .int x :: l) (.int x :: st) h := (zXq (op := oIl 3 120) zT_55 rfl).trans rfl
theorem q55_120 (d : Nat) (lo : zL) (x : Int32) (st : List Value) (h : zH) : zXf zT znl d 55 120 lo (.int x :: st) h = if x = nI 0 then zXf zT znl d 55 123 lo st h else zXf zT znl d 55 132 lo st h := (zXq (op := oNe0 132 123) zT_55 rfl).trans (zB_if _ _)
theorem q55_123 (d : Nat) (x : Nat) (l : zL) (st : List Value) (h : zH) : zXf zT znl d 55 123 (.ref x :: l) st h = zXf zT znl d 55 124 (.ref x :: l) (.ref x :: st) h := (zXq (op := oAl 0 124) zT_55 rfl).trans rfl
theorem q55_124 (d : Nat) (a0 : Value) (a1 : Value) (a2 : Value) (a3 : Value) (a4 : Value) (a5 : Value) (a6 : Value) (a7 : Value) (a8 : Value) (a9 : Value) (x : Int32) (l : zL) (st : List Value) (h : zH) : zXf zT znl d 55 124 (a0 :: a1 :: a2 :: a3 :: a4 :: a5 :: a6 :: a7 :: a8 :: a9 :: .int x :: l) st h = zXf zT znl d 55 126 (a0 :: a1 :: a2 :: a3 :: a4 :: a5 :: a6 :: a7 :: a8 :: a9 :: .int x :: l) (.int x :: st) h := (zXq (op := oIl 10 126) zT_55 rfl).trans rfl
theorem q55_126 (d : Nat) (lo : zL) (x0 x1 : Value) (h : zH) (hr : zrc 5 [x0, x1] = true) : zXf zT znl d 55 126 lo [x1, x0] h = (zCf zT znl d 54 [x0, x1] h).bind fun o => zXf zT znl d 55 129 lo (o.1.toList ++ []) o.2 := (zXq (op := oC2 5 54 129) zT_55 rfl).trans (zB_cl rfl hr)
theorem q55_129 (d : Nat) (lo : zL) (x : Int32) (st : List Value) (h : zH) : zXf zT znl d 55 129 lo (.int x :: st) h = if x = nI 0 then zXf zT znl d 55 132 lo st h else zXf zT znl d 55 135 lo st h := (zXq (op := oNe0 135 132) zT_55 rfl).trans (zB_if _ _)
theorem q55_132 (d : Nat) (a0 : Value) (a1 : Value) (a2 : Value) (a3 : Value) (a4 : Value) (a5 : Value) (a6 : Value) (a7 : Value) (a8 : Value) (a9 : Value) (x : Int32) (l : zL) (st : List Value) (h : zH) : zXf zT znl d 55 132 (a0 :: a1 :: a2 :: a3 :: a4 :: a5 :: a6 :: a7 :: a8 :: a9 :: .int x :: l) st h = zXf zT znl d 55 134 (a0 :: a1 :: a2 :: a3 :: a4 :: a5 :: a6 :: a7 :: a8 :: a9 :: .int x :: l) (.int x :: st) h := (zXq (op := oIl 10 134) zT_55 rfl).trans rfl
theorem q55_134 (d : Nat) (lo : zL) (x : Int32) (h : zH) : zXf zT znl d 55 134 lo [.int x] h = some (some (.int x), h) := (zXq (op := oIret) zT_55 rfl).trans rfl
theorem q55_135 (d : Nat) (a0 : Value) (x : Int32) (l : zL) (st : List Value) (h : zH) : zXf zT znl d 55 135 (a0 :: .int x :: l) st h = zXf zT znl d 55 136 (a0 :: .int x :: l) (.int x :: st) h := (zXq (op := oIl 1 136) zT_55 rfl).trans rfl
theorem q55_136 (d : Nat) (lo : zL) (x : Int32) (h : zH) : zXf zT znl d 55 136 lo [.int x] h = some (some (.int x), h) := (zXq (op := oIret) zT_55 rfl).trans rfl
theorem q56_0 (d : Nat) (x : Nat) (l : zL) (st : List Value) (h : zH) : zXf zT znl d 56 0 (.ref x :: l) st h = zXf zT znl d 56 1 (.ref x :: l) (.ref x :: st) h := (zXq (op := oAl 0 1) zT_56 rfl).trans rfl
theorem q56_1 (d : Nat) (x : Nat) (l : zL) (st : List Value) (h : zH) : zXf zT znl d 56 1 (.ref x :: l) st h = zXf zT znl d 56 2 (.ref x :: l) (.ref x :: st) h := (zXq (op := oAl 0 2) zT_56 rfl).trans rfl
theorem q56_2 (d : Nat) (lo : zL) (st : List Value) (h : zH) : zXf zT znl d 56 2 lo st h = zB zT znl d 56 (oGf 5 9 5 lo st h) := zXq (op := oGf 5 9 5) zT_56 rfl
theorem q56_5 (d : Nat) (a0 : Value) (x : Nat) (l : zL) (st : List Value) (h : zH) : zXf zT znl d 56 5 (a0 :: .ref x :: l) st h = zXf zT znl d 56 6 (a0 :: .ref x :: l) (.ref x :: st) h := (zXq (op := oAl 1 6) zT_56 rfl).trans rfl
theorem q56_6 (d : Nat) (lo : zL) (st : List Value) (h : zH) : zXf zT znl d 56 6 lo st h = zXf zT znl d 56 7 lo (.int (nI 2) :: st) h := (zXq (op := oPush 2 7) zT_56 rfl).trans rfl
theorem q56_7 (d : Nat) (lo : zL) (st : List Value) (h : zH) : zXf zT znl d 56 7 lo st h = zB zT znl d 56 (oIald 8 lo st h) := zXq (op := oIald 8) zT_56 rfl
theorem q56_8 (d : Nat) (lo : zL) (st : List Value) (h : zH) : zXf zT znl d 56 8 lo st h = zXf zT znl d 56 9 lo (.int (nI 0) :: st) h := (zXq (op := oPush 0 9) zT_56 rfl).trans rfl
theorem q56_9 (d : Nat) (lo : zL) (x0 x1 x2 x3 : Value) (h : zH) (hr : zrc 5 [x0, x1, x2, x3] = true) : zXf zT znl d 56 9 lo [x3, x2, x1, x0] h = (zCf zT znl d 55 [x0, x1, x2, x3] h).bind fun o => zXf zT znl d 56 12 lo (o.1.toList ++ []) o.2 := (zXq (op := oC4 5 55 12) zT_56 rfl).trans (zB_cl rfl hr)
theorem q56_12 (d : Nat) (a0 : Value) (a1 : Value) (a2 : Value) (x : Int32) (l : zL) (st : List Value) (h : zH) (hz : zokv a1 = true) : zXf zT znl d 56 12 (a0 :: a1 :: a2 :: l) (.int x :: st) h = zXf zT znl d 56 13 (a0 :: a1 :: .int x :: l) st h := by
  refine (zXq (op := oIs 2 13) zT_56 rfl).trans ?_
  simp only [oIs, zok, hz, Bool.and_self, if_true, List.set_cons_succ, List.set_cons_zero, zB_go]
theorem q56_13 (d : Nat) (a0 : Value) (x : Nat) (l : zL) (st : List Value) (h : zH) : zXf zT znl d 56 13 (a0 :: .ref x :: l) st h = zXf zT znl d 56 14 (a0 :: .ref x :: l) (.ref x :: st) h := (zXq (op := oAl 1 14) zT_56 rfl).trans rfl
theorem q56_14 (d : Nat) (a0 : Value) (a1 : Value) (x : Int32) (l : zL) (st : List Value) (h : zH) : zXf zT znl d 56 14 (a0 :: a1 :: .int x :: l) st h = zXf zT znl d 56 15 (a0 :: a1 :: .int x :: l) (.int x :: st) h := (zXq (op := oIl 2 15) zT_56 rfl).trans rfl
theorem q56_15 (d : Nat) (lo : zL) (x0 x1 : Value) (h : zH) : zXf zT znl d 56 15 lo [x1, x0] h = (zCf zT znl d 3 [x0, x1] h).bind fun o => zXf zT znl d 56 18 lo (o.1.toList ++ []) o.2 := (zXq (op := oC2 98 3 18) zT_56 rfl).trans (zB_cl rfl rfl)
theorem q56_18 (d : Nat) (a0 : Value) (x : Nat) (l : zL) (st : List Value) (h : zH) : zXf zT znl d 56 18 (a0 :: .ref x :: l) st h = zXf zT znl d 56 19 (a0 :: .ref x :: l) (.ref x :: st) h := (zXq (op := oAl 1 19) zT_56 rfl).trans rfl
theorem q56_19 (d : Nat) (x : Nat) (l : zL) (st : List Value) (h : zH) : zXf zT znl d 56 19 (.ref x :: l) st h = zXf zT znl d 56 20 (.ref x :: l) (.ref x :: st) h := (zXq (op := oAl 0 20) zT_56 rfl).trans rfl
theorem q56_20 (d : Nat) (lo : zL) (st : List Value) (h : zH) : zXf zT znl d 56 20 lo st h = zB zT znl d 56 (oGf 5 9 23 lo st h) := zXq (op := oGf 5 9 23) zT_56 rfl
theorem q56_23 (d : Nat) (lo : zL) (x0 x1 s0 : Value) (h : zH) : zXf zT znl d 56 23 lo [x1, x0, s0] h = (zCf zT znl d 3 [x0, x1] h).bind fun o => zXf zT znl d 56 26 lo (o.1.toList ++ [s0]) o.2 := (zXq (op := oC2 98 3 26) zT_56 rfl).trans (zB_cl rfl rfl)
theorem q56_26 (d : Nat) (lo : zL) (x y : Int32) (st : List Value) (h : zH) : zXf zT znl d 56 26 lo (.int y :: .int x :: st) h = zXf zT znl d 56 27 lo (.int (x - y) :: st) h := (zXq (op := oBin (fun x y => x - y) 27) zT_56 rfl).trans rfl
theorem q56_27 (d : Nat) (lo : zL) (x : Int32) (h : zH) : zXf zT znl d 56 27 lo [.int x] h = some (some (.int x), h) := (zXq (op := oIret) zT_56 rfl).trans rfl
theorem q57_0 (d : Nat) (x : Nat) (l : zL) (st : List Value) (h : zH) : zXf zT znl d 57 0 (.ref x :: l) st h = zXf zT znl d 57 1 (.ref x :: l) (.ref x :: st) h := (zXq (op := oAl 0 1) zT_57 rfl).trans rfl
theorem q57_1 (d : Nat) (lo : zL) (st : List Value) (h : zH) : zXf zT znl d 57 1 lo st h = zB zT znl d 57 (oGf 5 4 4 lo st h) := zXq (op := oGf 5 4 4) zT_57 rfl
theorem q57_4 (d : Nat) (lo : zL) (st : List Value) (h : zH) : zXf zT znl d 57 4 lo st h = zB zT znl d 57 (oGf 4 4 7 lo st h) := zXq (op := oGf 4 4 7) zT_57 rfl
theorem q57_7 (d : Nat) (lo : zL) (x : Int32) (st : List Value) (h : zH) : zXf zT znl d 57 7 lo (.int x :: st) h = if x = nI 0 then zXf zT znl d 57 10 lo st h else zXf zT znl d 57 14 lo st h := (zXq (op := oNe0 14 10) zT_57 rfl).trans (zB_if _ _)
theorem q57_10 (d : Nat) (a0 : Value) (a1 : Value) (x : Int32) (l : zL) (st : List Value) (h : zH) : zXf zT znl d 57 10 (a0 :: a1 :: .int x :: l) st h = zXf zT znl d 57 11 (a0 :: a1 :: .int x :: l) (.int x :: st) h := (zXq (op := oIl 2 11) zT_57 rfl).trans rfl
theorem q57_11 (d : Nat) (lo : zL) (st : List Value) (h : zH) : zXf zT znl d 57 11 lo st h = zXf zT znl d 57 12 lo (.int (nI 3) :: st) h := (zXq (op := oPush 3 12) zT_57 rfl).trans rfl
theorem q57_12 (d : Nat) (lo : zL) (x y : Int32) (st : List Value) (h : zH) (hy : ¬ y = 0) : zXf zT znl d 57 12 lo (.int y :: .int x :: st) h = zXf zT znl d 57 13 lo (.int (x / y) :: st) h := by
  refine (zXq (op := oDiv 13) zT_57 rfl).trans ?_
  simp only [oDiv, if_neg hy, zB_go]
theorem q57_13 (d : Nat) (lo : zL) (x : Int32) (h : zH) : zXf zT znl d 57 13 lo [.int x] h = some (some (.int x), h) := (zXq (op := oIret) zT_57 rfl).trans rfl
theorem q57_14 (d : Nat) (x : Nat) (l : zL) (st : List Value) (h : zH) : zXf zT znl d 57 14 (.ref x :: l) st h = zXf zT znl d 57 15 (.ref x :: l) (.ref x :: st) h := (zXq (op := oAl 0 15) zT_57 rfl).trans rfl
theorem q57_15 (d : Nat) (lo : zL) (st : List Value) (h : zH) : zXf zT znl d 57 15 lo st h = zB zT znl d 57 (oGf 5 5 18 lo st h) := zXq (op := oGf 5 5 18) zT_57 rfl
theorem q57_18 (d : Nat) (lo : zL) (st : List Value) (h : zH) : zXf zT znl d 57 18 lo st h = zXf zT znl d 57 19 lo (.int (nI 0) :: st) h := (zXq (op := oPush 0 19) zT_57 rfl).trans rfl
theorem q57_19 (d : Nat) (a0 : Value) (a1 : Value) (x : Int32) (l : zL) (st : List Value) (h : zH) : zXf zT znl d 57 19 (a0 :: a1 :: .int x :: l) st h = zXf zT znl d 57 20 (a0 :: a1 :: .int x :: l) (.int x :: st) h := (zXq (op := oIl 2 20) zT_57 rfl).trans rfl
theorem q57_20 (d : Nat) (lo : zL) (st : List Value) (h : zH) : zXf zT znl d 57 20 lo st h = zB zT znl d 57 (oIast 21 lo st h) := zXq (op := oIast 21) zT_57 rfl
theorem q57_21 (d : Nat) (x : Nat) (l : zL) (st : List Value) (h : zH) : zXf zT znl d 57 21 (.ref x :: l) st h = zXf zT znl d 57 22 (.ref x :: l) (.ref x :: st) h := (zXq (op := oAl 0 22) zT_57 rfl).trans rfl
theorem q57_22 (d : Nat) (lo : zL) (st : List Value) (h : zH) : zXf zT znl d 57 22 lo st h = zB zT znl d 57 (oGf 5 5 25 lo st h) := zXq (op := oGf 5 5 25) zT_57 rfl
theorem q57_25 (d : Nat) (lo : zL) (st : List Value) (h : zH) : zXf zT znl d 57 25 lo st h = zXf zT znl d 57 26 lo (.int (nI 1) :: st) h := (zXq (op := oPush 1 26) zT_57 rfl).trans rfl
theorem q57_26 (d : Nat) (a0 : Value) (x : Nat) (l : zL) (st : List Value) (h : zH) : zXf zT znl d 57 26 (a0 :: .ref x :: l) st h = zXf zT znl d 57 27 (a0 :: .ref x :: l) (.ref x :: st) h := (zXq (op := oAl 1 27) zT_57 rfl).trans rfl
theorem q57_27 (d : Nat) (lo : zL) (st : List Value) (h : zH) : zXf zT znl d 57 27 lo st h = zXf zT znl d 57 28 lo (.int (nI 4) :: st) h := (zXq (op := oPush 4 28) zT_57 rfl).trans rfl
theorem q57_28 (d : Nat) (lo : zL) (st : List Value) (h : zH) : zXf zT znl d 57 28 lo st h = zB zT znl d 57 (oIald 29 lo st h) := zXq (op := oIald 29) zT_57 rfl
theorem q57_29 (d : Nat) (lo : zL) (st : List Value) (h : zH) : zXf zT znl d 57 29 lo st h = zB zT znl d 57 (oIast 30 lo st h) := zXq (op := oIast 30) zT_57 rfl
theorem q57_30 (d : Nat) (x : Nat) (l : zL) (st : List Value) (h : zH) : zXf zT znl d 57 30 (.ref x :: l) st h = zXf zT znl d 57 31 (.ref x :: l) (.ref x :: st) h := (zXq (op := oAl 0 31) zT_57 rfl).trans rfl
theorem q57_31 (d : Nat) (lo : zL) (st : List Value) (h : zH) : zXf zT znl d 57 31 lo st h = zB zT znl d 57 (oGf 5 5 34 lo st h) := zXq (op := oGf 5 5 34) zT_57 rfl
theorem q57_34 (d : Nat) (lo : zL) (st : List Value) (h : zH) : zXf zT znl d 57 34 lo st h = zXf zT znl d 57 35 lo (.int (nI 2) :: st) h := (zXq (op := oPush 2 35) zT_57 rfl).trans rfl
theorem q57_35 (d : Nat) (a0 : Value) (x : Nat) (l : zL) (st : List Value) (h : zH) : zXf zT znl d 57 35 (a0 :: .ref x :: l) st h = zXf zT znl d 57 36 (a0 :: .ref x :: l) (.ref x :: st) h := (zXq (op := oAl 1 36) zT_57 rfl).trans rfl
theorem q57_36 (d : Nat) (lo : zL) (st : List Value) (h : zH) : zXf zT znl d 57 36 lo st h = zXf zT znl d 57 37 lo (.int (nI 5) :: st) h := (zXq (op := oPush 5 37) zT_57 rfl).trans rfl
theorem q57_37 (d : Nat) (lo : zL) (st : List Value) (h : zH) : zXf zT znl d 57 37 lo st h = zB zT znl d 57 (oIald 38 lo st h) := zXq (op := oIald 38) zT_57 rfl
theorem q57_38 (d : Nat) (lo : zL) (st : List Value) (h : zH) : zXf zT znl d 57 38 lo st h = zB zT znl d 57 (oIast 39 lo st h) := zXq (op := oIast 39) zT_57 rfl
theorem q57_39 (d : Nat) (x : Nat) (l : zL) (st : List Value) (h : zH) : zXf zT znl d 57 39 (.ref x :: l) st h = zXf zT znl d 57 40 (.ref x :: l) (.ref x :: st) h := (zXq (op := oAl 0 40) zT_57 rfl).trans rfl
theorem q57_40 (d : Nat) (lo : zL) (st : List Value) (h : zH) : zXf zT znl d 57 40 lo st h = zB zT znl d 57 (oGf 5 4 43 lo st h) := zXq (op := oGf 5 4 43) zT_57 rfl
theorem q57_43 (d : Nat) (x : Nat) (l : zL) (st : List Value) (h : zH) : zXf zT znl d 57 43 (.ref x :: l) st h = zXf zT znl d 57 44 (.ref x :: l) (.ref x :: st) h := (zXq (op := oAl 0 44) zT_57 rfl).trans rfl
theorem q57_44 (d : Nat) (lo : zL) (st : List Value) (h : zH) : zXf zT znl d 57 44 lo st h = zB zT znl d 57 (oGf 5 5 47 lo st h) := zXq (op := oGf 5 5 47) zT_57 rfl
theorem q57_47 (d : Nat) (lo : zL) (x0 x1 : Value) (h : zH) (hr : zrc 4 [x0, x1] = true) : zXf zT znl d 57 47 lo [x1, x0] h = (zCf zT znl d 83 [x0, x1] h).bind fun o => zXf zT znl d 57 50 lo (o.1.toList ++ []) o.2 := (zXq (op := oC2 4 83 50) zT_57 rfl).trans (zB_cl rfl hr)
theorem q57_50 (d : Nat) (lo : zL) (st : List Value) (h : zH) : zXf zT znl d 57 50 lo st h = zXf zT znl d 57 51 lo (.int (nI 0) :: st) h := (zXq (op := oPush 0 51) zT_57 rfl).trans rfl
theorem q57_51 (d : Nat) (lo : zL) (st : List Value) (h : zH) : zXf zT znl d 57 51 lo st h = zXf zT znl d 57 54 lo (.int (nI 999) :: st) h := (zXq (op := oPush 999 54) zT_57 rfl).trans rfl
theorem q57_54 (d : Nat) (lo : zL) (x0 x1 x2 : Value) (h : zH) : zXf zT znl d 57 54 lo [x2, x1, x0] h = (zCf zT znl d 4 [x0, x1, x2] h).bind fun o => zXf zT znl d 57 57 lo (o.1.toList ++ []) o.2 := (zXq (op := oC3 98 4 57) zT_57 rfl).trans (zB_cl rfl rfl)
theorem q57_57 (d : Nat) (lo : zL) (x : Int32) (h : zH) : zXf zT znl d 57 57 lo [.int x] h = some (some (.int x), h) := (zXq (op := oIret) zT_57 rfl).trans rfl
theorem q58_0 (d : Nat) (x : Nat) (l : zL) (st : List Value) (h : zH) : zXf zT znl d 58 0 (.ref x :: l) st h = zXf zT znl d 58 1 (.ref x :: l) (.ref x :: st) h := (zXq (op := oAl 0 1) zT_58 rfl).trans rfl
theorem q58_1 (d : Nat) (lo : zL) (st : List Value) (h : zH) : zXf zT znl d 58 1 lo st h = zB zT znl d 58 (oGf 5 2 4 lo st h) := zXq (op := oGf 5 2 4) zT_58 rfl
theorem q58_4 (d : Nat) (a0 : Value) (x : Int32) (l : zL) (st : List Value) (h : zH) : zXf zT znl d 58 4 (a0 :: .int x :: l) st h = zXf zT znl d 58 5 (a0 :: .int x :: l) (.int x :: st) h := (zXq (op := oIl 1 5) zT_58 rfl).trans rfl
theorem q58_5 (d : Nat) (lo : zL) (st : List Value) (h : zH) : zXf zT znl d 58 5 lo st h = zB zT znl d 58 (oAald 6 lo st h) := zXq (op := oAald 6) zT_58 rfl
theorem q58_6 (d : Nat) (a0 : Value) (a1 : Value) (a2 : Value) (x : Nat) (l : zL) (st : List Value) (h : zH) (hz : zokv a1 = true) : zXf zT znl d 58 6 (a0 :: a1 :: a2 :: l) (.ref x :: st) h = zXf zT znl d 58 7 (a0 :: a1 :: .ref x :: l) st h := by
  refine (zXq (op := oAs 2 7) zT_58 rfl).trans ?_
  simp only [oAs, zok, hz, Bool.and_self, if_true, List.set_cons_succ, List.set_cons_zero, zB_go]
theorem q58_7 (d : Nat) (a0 : Value) (a1 : Value) (x : Nat) (l : zL) (st : List Value) (h : zH) : zXf zT znl d 58 7 (a0 :: a1 :: .ref x :: l) st h = zXf zT znl d 58 8 (a0 :: a1 :: .ref x :: l) (.ref x :: st) h := (zXq (op := oAl 2 8) zT_58 rfl).trans rfl
theorem q58_8 (d : Nat) (lo : zL) (st : List Value) (h : zH) : zXf zT znl d 58 8 lo st h = zXf zT znl d 58 10 lo (.int (nI 7) :: st) h := (zXq (op := oPush 7 10) zT_58 rfl).trans rfl
theorem q58_10 (d : Nat) (lo : zL) (st : List Value) (h : zH) : zXf zT znl d 58 10 lo st h = zB zT znl d 58 (oIald 11 lo st h) := zXq (op := oIald 11) zT_58 rfl
theorem q58_11 (d : Nat) (lo : zL) (st : List Value) (h : zH) : zXf zT znl d 58 11 lo st h = zXf zT znl d 58 12 lo (.int (nI 1) :: st) h := (zXq (op := oPush 1 12) zT_58 rfl).trans rfl
theorem q58_12 (d : Nat) (lo : zL) (x y : Int32) (st : List Value) (h : zH) : zXf zT znl d 58 12 lo (.int y :: .int x :: st) h = if x = y then zXf zT znl d 58 15 lo st h else zXf zT znl d 58 17 lo st h := (zXq (op := oCNe 17 15) zT_58 rfl).trans (zB_if _ _)
theorem q58_15 (d : Nat) (lo : zL) (st : List Value) (h : zH) : zXf zT znl d 58 15 lo st h = zXf zT znl d 58 16 lo (.int (nI 0) :: st) h := (zXq (op := oPush 0 16) zT_58 rfl).trans rfl
theorem q58_16 (d : Nat) (lo : zL) (x : Int32) (h : zH) : zXf zT znl d 58 16 lo [.int x] h = some (some (.int x), h) := (zXq (op := oIret) zT_58 rfl).trans rfl
theorem q58_17 (d : Nat) (a0 : Value) (a1 : Value) (x : Nat) (l : zL) (st : List Value) (h : zH) : zXf zT znl d 58 17 (a0 :: a1 :: .ref x :: l) st h = zXf zT znl d 58 18 (a0 :: a1 :: .ref x :: l) (.ref x :: st) h := (zXq (op := oAl 2 18) zT_58 rfl).trans rfl
theorem q58_18 (d : Nat) (lo : zL) (st : List Value) (h : zH) : zXf zT znl d 58 18 lo st h = zXf zT znl d 58 19 lo (.int (nI 2) :: st) h := (zXq (op := oPush 2 19) zT_58 rfl).trans rfl
theorem q58_19 (d : Nat) (lo : zL) (st : List Value) (h : zH) : zXf zT znl d 58 19 lo st h = zB zT znl d 58 (oIald 20 lo st h) := zXq (op := oIald 20) zT_58 rfl
theorem q58_20 (d : Nat) (x : Nat) (l : zL) (st : List Value) (h : zH) : zXf zT znl d 58 20 (.ref x :: l) st h = zXf zT znl d 58 21 (.ref x :: l) (.ref x :: st) h := (zXq (op := oAl 0 21) zT_58 rfl).trans rfl
theorem q58_21 (d : Nat) (lo : zL) (st : List Value) (h : zH) : zXf zT znl d 58 21 lo st h = zB zT znl d 58 (oGf 5 9 24 lo st h) := zXq (op := oGf 5 9 24) zT_58 rfl
theorem q58_24 (d : Nat) (lo : zL) (x0 x1 : Value) (h : zH) : zXf zT znl d 58 24 lo [x1, x0] h = (zCf zT znl d 1 [x0, x1] h).bind fun o => zXf zT znl d 58 27 lo (o.1.toList ++ []) o.2 := (zXq (op := oC2 98 1 27) zT_58 rfl).trans (zB_cl rfl rfl)
theorem q58_27 (d : Nat) (a0 : Value) (a1 : Value) (a2 : Value) (a3 : Value) (x : Int32) (l : zL) (st : List Value) (h : zH) (hz : zokv a2 = true) : zXf zT znl d 58 27 (a0 :: a1 :: a2 :: a3 :: l) (.int x :: st) h = zXf zT znl d 58 28 (a0 :: a1 :: a2 :: .int x :: l) st h := by
  refine (zXq (op := oIs 3 28) zT_58 rfl).trans ?_
  simp only [oIs, zok, hz, Bool.and_self, if_true, List.set_cons_succ, List.set_cons_zero, zB_go]
theorem q58_28 (d : Nat) (a0 : Value) (a1 : Value) (x : Nat) (l : zL) (st : List Value) (h : zH) : zXf zT znl d 58 28 (a0 :: a1 :: .ref x :: l) st h = zXf zT znl d 58 29 (a0 :: a1 :: .ref x :: l) (.ref x :: st) h := (zXq (op := oAl 2 29) zT_58 rfl).trans rfl
theorem q58_29 (d : Nat) (lo : zL) (st : List Value) (h : zH) : zXf zT znl d 58 29 lo st h = zXf zT znl d 58 30 lo (.int (nI 3) :: st) h := (zXq (op := oPush 3 30) zT_58 rfl).trans rfl
theorem q58_30 (d : Nat) (lo : zL) (st : List Value) (h : zH) : zXf zT znl d 58 30 lo st h = zB zT znl d 58 (oIald 31 lo st h) := zXq (op := oIald 31) zT_58 rfl
theorem q58_31 (d : Nat) (a0 : Value) (a1 : Value) (x : Nat) (l : zL) (st : List Value) (h : zH) : zXf zT znl d 58 31 (a0 :: a1 :: .ref x :: l) st h = zXf zT znl d 58 32 (a0 :: a1 :: .ref x :: l) (.ref x :: st) h := (zXq (op := oAl 2 32) zT_58 rfl).trans rfl
theorem q58_32 (d : Nat) (lo : zL) (st : List Value) (h : zH) : zXf zT znl d 58 32 lo st h = zXf zT znl d 58 33 lo (.int (nI 4) :: st) h := (zXq (op := oPush 4 33) zT_58 rfl).trans rfl
theorem q58_33 (d : Nat) (lo : zL) (st : List Value) (h : zH) : zXf zT znl d 58 33 lo st h = zB zT znl d 58 (oIald 34 lo st h) := zXq (op := oIald 34) zT_58 rfl
theorem q58_34 (d : Nat) (lo : zL) (x y : Int32) (st : List Value) (h : zH) : zXf zT znl d 58 34 lo (.int y :: .int x :: st) h = zXf zT znl d 58 35 lo (.int (x - y) :: st) h := (zXq (op := oBin (fun x y => x - y) 35) zT_58 rfl).trans rfl
theorem q58_35 (d : Nat) (a0 : Value) (a1 : Value) (a2 : Value) (a3 : Value) (a4 : Value) (x : Int32) (l : zL) (st : List Value) (h : zH) (hz : zokv a3 = true) : zXf zT znl d 58 35 (a0 :: a1 :: a2 :: a3 :: a4 :: l) (.int x :: st) h = zXf zT znl d 58 37 (a0 :: a1 :: a2 :: a3 :: .int x :: l) st h := by
  refine (zXq (op := oIs 4 37) zT_58 rfl).trans ?_
  simp only [oIs, zok, hz, Bool.and_self, if_true, List.set_cons_succ, List.set_cons_zero, zB_go]
theorem q58_37 (d : Nat) (a0 : Value) (a1 : Value) (a2 : Value) (x : Int32) (l : zL) (st : List Value) (h : zH) : zXf zT znl d 58 37 (a0 :: a1 :: a2 :: .int x :: l) st h = zXf zT znl d 58 38 (a0 :: a1 :: a2 :: .int x :: l) (.int x :: st) h := (zXq (op := oIl 3 38) zT_58 rfl).trans rfl
theorem q58_38 (d : Nat) (lo : zL) (x : Int32) (st : List Value) (h : zH) : zXf zT znl d 58 38 lo (.int x :: st) h = if x = nI 0 then zXf zT znl d 58 41 lo st h else zXf zT znl d 58 45 lo st h := (zXq (op := oNe0 45 41) zT_58 rfl).trans (zB_if _ _)
theorem q58_41 (d : Nat) (lo : zL) (st : List Value) (h : zH) : zXf zT znl d 58 41 lo st h = zXf zT znl d 58 42 lo (.int (nI 0) :: st) h := (zXq (op := oPush 0 42) zT_58 rfl).trans rfl
theorem q58_42 (d : Nat) (lo : zL) (st : List Value) (h : zH) : zXf zT znl d 58 42 lo st h = zXf zT znl d 58 47 lo st h := (zXq (op := oGoto 47) zT_58 rfl).trans rfl
theorem q58_45 (d : Nat) (a0 : Value) (a1 : Value) (a2 : Value) (a3 : Value) (x : Int32) (l : zL) (st : List Value) (h : zH) : zXf zT znl d 58 45 (a0 :: a1 :: a2 :: a3 :: .int x :: l) st h = zXf zT znl d 58 47 (a0 :: a1 :: a2 :: a3 :: .int x :: l) (.int x :: st) h := (zXq (op := oIl 4 47) zT_58 rfl).trans rfl
theorem q58_47 (d : Nat) (a0 : Value) (a1 : Value) (a2 : Value) (a3 : Value) (a4 : Value) (a5 : Value) (x : Int32) (l : zL) (st : List Value) (h : zH) (hz : zokv a4 = true) : zXf zT znl d 58 47 (a0 :: a1 :: a2 :: a3 :: a4 :: a5 :: l) (.int x :: st) h = zXf zT znl d 58 49 (a0 :: a1 :: a2 :: a3 :: a4 :: .int x :: l) st h := by
  refine (zXq (op := oIs 5 49) zT_58 rfl).trans ?_
  simp only [oIs, zok, hz, Bool.and_self, if_true, List.set_cons_succ, List.set_cons_zero, zB_go]
theorem q58_49 (d : Nat) (lo : zL) (st : List Value) (h : zH) : zXf zT znl d 58 49 lo st h = zXf zT znl d 58 50 lo (.int (nI 0) :: st) h := (zXq (op := oPush 0 50) zT_58 rfl).trans rfl
theorem q58_50 (d : Nat) (a0 : Value) (a1 : Value) (a2 : Value) (a3 : Value) (a4 : Value) (a5 : Value) (a6 : Value) (x : Int32) (l : zL) (st : List Value) (h : zH) (hz : zokv a5 = true) : zXf zT znl d 58 50 (a0 :: a1 :: a2 :: a3 :: a4 :: a5 :: a6 :: l) (.int x :: st) h = zXf zT znl d 58 52 (a0 :: a1 :: a2 :: a3 :: a4 :: a5 :: .int x :: l) st h := by
  refine (zXq (op := oIs 6 52) zT_58 rfl).trans ?_
  simp only [oIs, zok, hz, Bool.and_self, if_true, List.set_cons_succ, List.set_cons_zero, zB_go]
theorem q58_52 (d : Nat) (a0 : Value) (a1 : Value) (x : Nat) (l : zL) (st : List Value) (h : zH) : zXf zT znl d 58 52 (a0 :: a1 :: .ref x :: l) st h = zXf zT znl d 58 53 (a0 :: a1 :: .ref x :: l) (.ref x :: st) h := (zXq (op := oAl 2 53) zT_58 rfl).trans rfl
theorem q58_53 (d : Nat) (lo : zL) (st : List Value) (h : zH) : zXf zT znl d 58 53 lo st h = zXf zT znl d 58 54 lo (.int (nI 0) :: st) h := (zXq (op := oPush 0 54) zT_58 rfl).trans rfl
theorem q58_54 (d : Nat) (lo : zL) (st : List Value) (h : zH) : zXf zT znl d 58 54 lo st h = zB zT znl d 58 (oIald 55 lo st h) := zXq (op := oIald 55) zT_58 rfl
theorem q58_55 (d : Nat) (lo : zL) (x : Int32) (st : List Value) (h : zH) : zXf zT znl d 58 55 lo (.int x :: st) h = if x = nI 1 then zXf zT znl d 58 92 lo st h else (if x = nI 2 then zXf zT znl d 58 99 lo st h else (if x = nI 3 then zXf zT znl d 58 115 lo st h else (if x = nI 4 then zXf zT znl d 58 132 lo st h else (if x = nI 5 then zXf zT znl d 58 157 lo st h else (if x = nI 6 then zXf zT znl d 58 168 lo st h else (zXf zT znl d 58 200 lo st h)))))) := by
  refine (zXq (op := oSw [(1, 92), (2, 99), (3, 115), (4, 132), (5, 157), (6, 168)] 200) zT_58 rfl).trans ?_
  simp only [oSw, zsw, zB_if, zB_go]
  try rfl
theorem q58_92 (d : Nat) (a0 : Value) (a1 : Value) (a2 : Value) (a3 : Value) (a4 : Value) (x : Int32) (l : zL) (st : List Value) (h : zH) : zXf zT znl d 58 92 (a0 :: a1 :: a2 :: a3 :: a4 :: .int x :: l) st h = zXf zT znl d 58 94 (a0 :: a1 :: a2 :: a3 :: a4 :: .int x :: l) (.int x :: st) h := (zXq (op := oIl 5 94) zT_58 rfl).trans rfl
theorem q58_94 (d : Nat) (a0 : Value) (a1 : Value) (a2 : Value) (a3 : Value) (a4 : Value) (a5 : Value) (a6 : Value) (x : Int32) (l : zL) (st : List Value) (h : zH) (hz : zokv a5 = true) : zXf zT znl d 58 94 (a0 :: a1 :: a2 :: a3 :: a4 :: a5 :: a6 :: l) (.int x :: st) h = zXf zT znl d 58 96 (a0 :: a1 :: a2 :: a3 :: a4 :: a5 :: .int x :: l) st h := by
  refine (zXq (op := oIs 6 96) zT_58 rfl).trans ?_
  simp only [oIs, zok, hz, Bool.and_self, if_true, List.set_cons_succ, List.set_cons_zero, zB_go]
theorem q58_96 (d : Nat) (lo : zL) (st : List Value) (h : zH) : zXf zT znl d 58 96 lo st h = zXf zT znl d 58 200 lo st h := (zXq (op := oGoto 200) zT_58 rfl).trans rfl
theorem q58_99 (d : Nat) (a0 : Value) (a1 : Value) (a2 : Value) (x : Int32) (l : zL) (st : List Value) (h : zH) : zXf zT znl d 58 99 (a0 :: a1 :: a2 :: .int x :: l) st h = zXf zT znl d 58 100 (a0 :: a1 :: a2 :: .int x :: l) (.int x :: st) h := (zXq (op := oIl 3 100) zT_58 rfl).trans rfl
theorem q58_100 (d : Nat) (lo : zL) (st : List Value) (h : zH) : zXf zT znl d 58 100 lo st h = zXf zT znl d 58 101 lo (.int (nI 3) :: st) h := (zXq (op := oPush 3 101) zT_58 rfl).trans rfl
theorem q58_101 (d : Nat) (lo : zL) (x y : Int32) (st : List Value) (h : zH) : zXf zT znl d 58 101 lo (.int y :: .int x :: st) h = if y < x then zXf zT znl d 58 109 lo st h else zXf zT znl d 58 104 lo st h := (zXq (op := oCGt 109 104) zT_58 rfl).trans (zB_if _ _)
theorem q58_104 (d : Nat) (a0 : Value) (a1 : Value) (a2 : Value) (a3 : Value) (x : Int32) (l : zL) (st : List Value) (h : zH) : zXf zT znl d 58 104 (a0 :: a1 :: a2 :: a3 :: .int x :: l) st h = zXf zT znl d 58 106 (a0 :: a1 :: a2 :: a3 :: .int x :: l) (.int x :: st) h := (zXq (op := oIl 4 106) zT_58 rfl).trans rfl
theorem q58_106 (d : Nat) (lo : zL) (st : List Value) (h : zH) : zXf zT znl d 58 106 lo st h = zXf zT znl d 58 110 lo st h := (zXq (op := oGoto 110) zT_58 rfl).trans rfl
theorem q58_109 (d : Nat) (lo : zL) (st : List Value) (h : zH) : zXf zT znl d 58 109 lo st h = zXf zT znl d 58 110 lo (.int (nI 0) :: st) h := (zXq (op := oPush 0 110) zT_58 rfl).trans rfl
theorem q58_110 (d : Nat) (a0 : Value) (a1 : Value) (a2 : Value) (a3 : Value) (a4 : Value) (a5 : Value) (a6 : Value) (x : Int32) (l : zL) (st : List Value) (h : zH) (hz : zokv a5 = true) : zXf zT znl d 58 110 (a0 :: a1 :: a2 :: a3 :: a4 :: a5 :: a6 :: l) (.int x :: st) h = zXf zT znl d 58 112 (a0 :: a1 :: a2 :: a3 :: a4 :: a5 :: .int x :: l) st h := by
  refine (zXq (op := oIs 6 112) zT_58 rfl).trans ?_
  simp only [oIs, zok, hz, Bool.and_self, if_true, List.set_cons_succ, List.set_cons_zero, zB_go]
theorem q58_112 (d : Nat) (lo : zL) (st : List Value) (h : zH) : zXf zT znl d 58 112 lo st h = zXf zT znl d 58 200 lo st h := (zXq (op := oGoto 200) zT_58 rfl).trans rfl
theorem q58_115 (d : Nat) (a0 : Value) (a1 : Value) (a2 : Value) (a3 : Value) (a4 : Value) (x : Int32) (l : zL) (st : List Value) (h : zH) : zXf zT znl d 58 115 (a0 :: a1 :: a2 :: a3 :: a4 :: .int x :: l) st h = zXf zT znl d 58 117 (a0 :: a1 :: a2 :: a3 :: a4 :: .int x :: l) (.int x :: st) h := (zXq (op := oIl 5 117) zT_58 rfl).trans rfl
theorem q58_117 (d : Nat) (a0 : Value) (a1 : Value) (x : Nat) (l : zL) (st : List Value) (h : zH) : zXf zT znl d 58 117 (a0 :: a1 :: .ref x :: l) st h = zXf zT znl d 58 118 (a0 :: a1 :: .ref x :: l) (.ref x :: st) h := (zXq (op := oAl 2 118) zT_58 rfl).trans rfl
theorem q58_118 (d : Nat) (lo : zL) (st : List Value) (h : zH) : zXf zT znl d 58 118 lo st h = zXf zT znl d 58 119 lo (.int (nI 1) :: st) h := (zXq (op := oPush 1 119) zT_58 rfl).trans rfl
theorem q58_119 (d : Nat) (lo : zL) (st : List Value) (h : zH) : zXf zT znl d 58 119 lo st h = zB zT znl d 58 (oIald 120 lo st h) := zXq (op := oIald 120) zT_58 rfl
theorem q58_120 (d : Nat) (x : Nat) (l : zL) (st : List Value) (h : zH) : zXf zT znl d 58 120 (.ref x :: l) st h = zXf zT znl d 58 121 (.ref x :: l) (.ref x :: st) h := (zXq (op := oAl 0 121) zT_58 rfl).trans rfl
theorem q58_121 (d : Nat) (a0 : Value) (x : Int32) (l : zL) (st : List Value) (h : zH) : zXf zT znl d 58 121 (a0 :: .int x :: l) st h = zXf zT znl d 58 122 (a0 :: .int x :: l) (.int x :: st) h := (zXq (op := oIl 1 122) zT_58 rfl).trans rfl
theorem q58_122 (d : Nat) (lo : zL) (x0 x1 s0 s1 : Value) (h : zH) (hr : zrc 5 [x0, x1] = true) : zXf zT znl d 58 122 lo [x1, x0, s0, s1] h = (zCf zT znl d 52 [x0, x1] h).bind fun o => zXf zT znl d 58 125 lo (o.1.toList ++ [s0, s1]) o.2 := (zXq (op := oC2 5 52 125) zT_58 rfl).trans (zB_cl rfl hr)
theorem q58_125 (d : Nat) (lo : zL) (x y : Int32) (st : List Value) (h : zH) : zXf zT znl d 58 125 lo (.int y :: .int x :: st) h = zXf zT znl d 58 126 lo (.int (x * y) :: st) h := (zXq (op := oBin (fun x y => x * y) 126) zT_58 rfl).trans rfl
theorem q58_126 (d : Nat) (lo : zL) (x y : Int32) (st : List Value) (h : zH) : zXf zT znl d 58 126 lo (.int y :: .int x :: st) h = zXf zT znl d 58 127 lo (.int (x + y) :: st) h := (zXq (op := oBin (fun x y => x + y) 127) zT_58 rfl).trans rfl
theorem q58_127 (d : Nat) (a0 : Value) (a1 : Value) (a2 : Value) (a3 : Value) (a4 : Value) (a5 : Value) (a6 : Value) (x : Int32) (l : zL) (st : List Value) (h : zH) (hz : zokv a5 = true) : zXf zT znl d 58 127 (a0 :: a1 :: a2 :: a3 :: a4 :: a5 :: a6 :: l) (.int x :: st) h = zXf zT znl d 58 129 (a0 :: a1 :: a2 :: a3 :: a4 :: a5 :: .int x :: l) st h := by
  refine (zXq (op := oIs 6 129) zT_58 rfl).trans ?_
  simp only [oIs, zok, hz, Bool.and_self, if_true, List.set_cons_succ, List.set_cons_zero, zB_go]
theorem q58_129 (d : Nat) (lo : zL) (st : List Value) (h : zH) : zXf zT znl d 58 129 lo st h = zXf zT znl d 58 200 lo st h := (zXq (op := oGoto 200) zT_58 rfl).trans rfl
theorem q58_132 (d : Nat) (x : Nat) (l : zL) (st : List Value) (h : zH) : zXf zT znl d 58 132 (.ref x :: l) st h = zXf zT znl d 58 133 (.ref x :: l) (.ref x :: st) h := (zXq (op := oAl 0 133) zT_58 rfl).trans rfl
theorem q58_133 (d : Nat) (lo : zL) (st : List Value) (h : zH) : zXf zT znl d 58 133 lo st h = zB zT znl d 58 (oGf 5 10 136 lo st h) := zXq (op := oGf 5 10 136) zT_58 rfl
theorem q58_136 (d : Nat) (lo : zL) (st : List Value) (h : zH) : zXf zT znl d 58 136 lo st h = zXf zT znl d 58 137 lo (.int (nI 4) :: st) h := (zXq (op := oPush 4 137) zT_58 rfl).trans rfl
theorem q58_137 (d : Nat) (lo : zL) (x y : Int32) (st : List Value) (h : zH) (hy : ¬ y = 0) : zXf zT znl d 58 137 lo (.int y :: .int x :: st) h = zXf zT znl d 58 138 lo (.int (x % y) :: st) h := by
  refine (zXq (op := oRem 138) zT_58 rfl).trans ?_
  simp only [oRem, if_neg hy, zB_go]
theorem q58_138 (d : Nat) (a0 : Value) (a1 : Value) (x : Nat) (l : zL) (st : List Value) (h : zH) : zXf zT znl d 58 138 (a0 :: a1 :: .ref x :: l) st h = zXf zT znl d 58 139 (a0 :: a1 :: .ref x :: l) (.ref x :: st) h := (zXq (op := oAl 2 139) zT_58 rfl).trans rfl
theorem q58_139 (d : Nat) (lo : zL) (st : List Value) (h : zH) : zXf zT znl d 58 139 lo st h = zXf zT znl d 58 140 lo (.int (nI 1) :: st) h := (zXq (op := oPush 1 140) zT_58 rfl).trans rfl
theorem q58_140 (d : Nat) (lo : zL) (st : List Value) (h : zH) : zXf zT znl d 58 140 lo st h = zB zT znl d 58 (oIald 141 lo st h) := zXq (op := oIald 141) zT_58 rfl
theorem q58_141 (d : Nat) (lo : zL) (st : List Value) (h : zH) : zXf zT znl d 58 141 lo st h = zXf zT znl d 58 142 lo (.int (nI 4) :: st) h := (zXq (op := oPush 4 142) zT_58 rfl).trans rfl
theorem q58_142 (d : Nat) (lo : zL) (x y : Int32) (st : List Value) (h : zH) (hy : ¬ y = 0) : zXf zT znl d 58 142 lo (.int y :: .int x :: st) h = zXf zT znl d 58 143 lo (.int (x % y) :: st) h := by
  refine (zXq (op := oRem 143) zT_58 rfl).trans ?_
  simp only [oRem, if_neg hy, zB_go]
theorem q58_143 (d : Nat) (lo : zL) (x y : Int32) (st : List Value) (h : zH) : zXf zT znl d 58 143 lo (.int y :: .int x :: st) h = if x = y then zXf zT znl d 58 146 lo st h else zXf zT znl d 58 151 lo st h := (zXq (op := oCNe 151 146) zT_58 rfl).trans (zB_if _ _)
theorem q58_146 (d : Nat) (a0 : Value) (a1 : Value) (a2 : Value) (a3 : Value) (a4 : Value) (x : Int32) (l : zL) (st : List Value) (h : zH) : zXf zT znl d 58 146 (a0 :: a1 :: a2 :: a3 :: a4 :: .int x :: l) st h = zXf zT znl d 58 148 (a0 :: a1 :: a2 :: a3 :: a4 :: .int x :: l) (.int x :: st) h := (zXq (op := oIl 5 148) zT_58 rfl).trans rfl
theorem q58_148 (d : Nat) (lo : zL) (st : List Value) (h : zH) : zXf zT znl d 58 148 lo st h = zXf zT znl d 58 152 lo st h := (zXq (op := oGoto 152) zT_58 rfl).trans rfl
theorem q58_151 (d : Nat) (lo : zL) (st : List Value) (h : zH) : zXf zT znl d 58 151 lo st h = zXf zT znl d 58 152 lo (.int (nI 0) :: st) h := (zXq (op := oPush 0 152) zT_58 rfl).trans rfl
theorem q58_152 (d : Nat) (a0 : Value) (a1 : Value) (a2 : Value) (a3 : Value) (a4 : Value) (a5 : Value) (a6 : Value) (x : Int32) (l : zL) (st : List Value) (h : zH) (hz : zokv a5 = true) : zXf zT znl d 58 152 (a0 :: a1 :: a2 :: a3 :: a4 :: a5 :: a6 :: l) (.int x :: st) h = zXf zT znl d 58 154 (a0 :: a1 :: a2 :: a3 :: a4 :: a5 :: .int x :: l) st h := by
  refine (zXq (op := oIs 6 154) zT_58 rfl).trans ?_
  simp only [oIs, zok, hz, Bool.and_self, if_true, List.set_cons_succ, List.set_cons_zero, zB_go]
theorem q58_154 (d : Nat) (lo : zL) (st : List Value) (h : zH) : zXf zT znl d 58 154 lo st h = zXf zT znl d 58 200 lo st h := (zXq (op := oGoto 200) zT_58 rfl).trans rfl
theorem q58_157 (d : Nat) (x : Nat) (l : zL) (st : List Value) (h : zH) : zXf zT znl d 58 157 (.ref x :: l) st h = zXf zT znl d 58 158 (.ref x :: l) (.ref x :: st) h := (zXq (op := oAl 0 158) zT_58 rfl).trans rfl
theorem q58_158 (d : Nat) (a0 : Value) (a1 : Value) (x : Nat) (l : zL) (st : List Value) (h : zH) : zXf zT znl d 58 158 (a0 :: a1 :: .ref x :: l) st h = zXf zT znl d 58 159 (a0 :: a1 :: .ref x :: l) (.ref x :: st) h := (zXq (op := oAl 2 159) zT_58 rfl).trans rfl
theorem q58_159 (d : Nat) (a0 : Value) (a1 : Value) (a2 : Value) (x : Int32) (l : zL) (st : List Value) (h : zH) : zXf zT znl d 58 159 (a0 :: a1 :: a2 :: .int x :: l) st h = zXf zT znl d 58 160 (a0 :: a1 :: a2 :: .int x :: l) (.int x :: st) h := (zXq (op := oIl 3 160) zT_58 rfl).trans rfl
theorem q58_160 (d : Nat) (lo : zL) (x0 x1 x2 : Value) (h : zH) (hr : zrc 5 [x0, x1, x2] = true) : zXf zT znl d 58 160 lo [x2, x1, x0] h = (zCf zT znl d 53 [x0, x1, x2] h).bind fun o => zXf zT znl d 58 163 lo (o.1.toList ++ []) o.2 := (zXq (op := oC3 5 53 163) zT_58 rfl).trans (zB_cl rfl hr)
theorem q58_163 (d : Nat) (a0 : Value) (a1 : Value) (a2 : Value) (a3 : Value) (a4 : Value) (a5 : Value) (a6 : Value) (x : Int32) (l : zL) (st : List Value) (h : zH) (hz : zokv a5 = true) : zXf zT znl d 58 163 (a0 :: a1 :: a2 :: a3 :: a4 :: a5 :: a6 :: l) (.int x :: st) h = zXf zT znl d 58 165 (a0 :: a1 :: a2 :: a3 :: a4 :: a5 :: .int x :: l) st h := by
  refine (zXq (op := oIs 6 165) zT_58 rfl).trans ?_
  simp only [oIs, zok, hz, Bool.and_self, if_true, List.set_cons_succ, List.set_cons_zero, zB_go]
theorem q58_165 (d : Nat) (lo : zL) (st : List Value) (h : zH) : zXf zT znl d 58 165 lo st h = zXf zT znl d 58 200 lo st h := (zXq (op := oGoto 200) zT_58 rfl).trans rfl
theorem q58_168 (d : Nat) (x : Nat) (l : zL) (st : List Value) (h : zH) : zXf zT znl d 58 168 (.ref x :: l) st h = zXf zT znl d 58 169 (.ref x :: l) (.ref x :: st) h := (zXq (op := oAl 0 169) zT_58 rfl).trans rfl
theorem q58_169 (d : Nat) (a0 : Value) (a1 : Value) (x : Nat) (l : zL) (st : List Value) (h : zH) : zXf zT znl d 58 169 (a0 :: a1 :: .ref x :: l) st h = zXf zT znl d 58 170 (a0 :: a1 :: .ref x :: l) (.ref x :: st) h := (zXq (op := oAl 2 170) zT_58 rfl).trans rfl
theorem q58_170 (d : Nat) (lo : zL) (x0 x1 : Value) (h : zH) (hr : zrc 5 [x0, x1] = true) : zXf zT znl d 58 170 lo [x1, x0] h = (zCf zT znl d 56 [x0, x1] h).bind fun o => zXf zT znl d 58 173 lo (o.1.toList ++ []) o.2 := (zXq (op := oC2 5 56 173) zT_58 rfl).trans (zB_cl rfl hr)
theorem q58_173 (d : Nat) (x : Nat) (l : zL) (st : List Value) (h : zH) : zXf zT znl d 58 173 (.ref x :: l) st h = zXf zT znl d 58 174 (.ref x :: l) (.ref x :: st) h := (zXq (op := oAl 0 174) zT_58 rfl).trans rfl
theorem q58_174 (d : Nat) (a0 : Value) (a1 : Value) (x : Nat) (l : zL) (st : List Value) (h : zH) : zXf zT znl d 58 174 (a0 :: a1 :: .ref x :: l) st h = zXf zT znl d 58 175 (a0 :: a1 :: .ref x :: l) (.ref x :: st) h := (zXq (op := oAl 2 175) zT_58 rfl).trans rfl
theorem q58_175 (d : Nat) (a0 : Value) (a1 : Value) (a2 : Value) (a3 : Value) (a4 : Value) (x : Int32) (l : zL) (st : List Value) (h : zH) : zXf zT znl d 58 175 (a0 :: a1 :: a2 :: a3 :: a4 :: .int x :: l) st h = zXf zT znl d 58 177 (a0 :: a1 :: a2 :: a3 :: a4 :: .int x :: l) (.int x :: st) h := (zXq (op := oIl 5 177) zT_58 rfl).trans rfl
theorem q58_177 (d : Nat) (lo : zL) (st : List Value) (h : zH) : zXf zT znl d 58 177 lo st h = zXf zT znl d 58 178 lo (.int (nI 0) :: st) h := (zXq (op := oPush 0 178) zT_58 rfl).trans rfl
theorem q58_178 (d : Nat) (lo : zL) (st : List Value) (h : zH) : zXf zT znl d 58 178 lo st h = zXf zT znl d 58 180 lo (.int (nI 99) :: st) h := (zXq (op := oPush 99 180) zT_58 rfl).trans rfl
theorem q58_180 (d : Nat) (lo : zL) (x0 x1 x2 s0 s1 s2 : Value) (h : zH) : zXf zT znl d 58 180 lo [x2, x1, x0, s0, s1, s2] h = (zCf zT znl d 4 [x0, x1, x2] h).bind fun o => zXf zT znl d 58 183 lo (o.1.toList ++ [s0, s1, s2]) o.2 := (zXq (op := oC3 98 4 183) zT_58 rfl).trans (zB_cl rfl rfl)
theorem q58_183 (d : Nat) (lo : zL) (x0 x1 x2 s0 : Value) (h : zH) (hr : zrc 5 [x0, x1, x2] = true) : zXf zT znl d 58 183 lo [x2, x1, x0, s0] h = (zCf zT znl d 57 [x0, x1, x2] h).bind fun o => zXf zT znl d 58 186 lo (o.1.toList ++ [s0]) o.2 := (zXq (op := oC3 5 57 186) zT_58 rfl).trans (zB_cl rfl hr)
theorem q58_186 (d : Nat) (lo : zL) (x y : Int32) (st : List Value) (h : zH) : zXf zT znl d 58 186 lo (.int y :: .int x :: st) h = if x < y then zXf zT znl d 58 194 lo st h else zXf zT znl d 58 189 lo st h := (zXq (op := oCLt 194 189) zT_58 rfl).trans (zB_if _ _)
theorem q58_189 (d : Nat) (a0 : Value) (a1 : Value) (a2 : Value) (a3 : Value) (a4 : Value) (x : Int32) (l : zL) (st : List Value) (h : zH) : zXf zT znl d 58 189 (a0 :: a1 :: a2 :: a3 :: a4 :: .int x :: l) st h = zXf zT znl d 58 191 (a0 :: a1 :: a2 :: a3 :: a4 :: .int x :: l) (.int x :: st) h := (zXq (op := oIl 5 191) zT_58 rfl).trans rfl
theorem q58_191 (d : Nat) (lo : zL) (st : List Value) (h : zH) : zXf zT znl d 58 191 lo st h = zXf zT znl d 58 195 lo st h := (zXq (op := oGoto 195) zT_58 rfl).trans rfl
theorem q58_194 (d : Nat) (lo : zL) (st : List Value) (h : zH) : zXf zT znl d 58 194 lo st h = zXf zT znl d 58 195 lo (.int (nI 0) :: st) h := (zXq (op := oPush 0 195) zT_58 rfl).trans rfl
theorem q58_195 (d : Nat) (a0 : Value) (a1 : Value) (a2 : Value) (a3 : Value) (a4 : Value) (a5 : Value) (a6 : Value) (x : Int32) (l : zL) (st : List Value) (h : zH) (hz : zokv a5 = true) : zXf zT znl d 58 195 (a0 :: a1 :: a2 :: a3 :: a4 :: a5 :: a6 :: l) (.int x :: st) h = zXf zT znl d 58 197 (a0 :: a1 :: a2 :: a3 :: a4 :: a5 :: .int x :: l) st h := by
  refine (zXq (op := oIs 6 197) zT_58 rfl).trans ?_
  simp only [oIs, zok, hz, Bool.and_self, if_true, List.set_cons_succ, List.set_cons_zero, zB_go]
theorem q58_197 (d : Nat) (lo : zL) (st : List Value) (h : zH) : zXf zT znl d 58 197 lo st h = zXf zT znl d 58 200 lo st h := (zXq (op := oGoto 200) zT_58 rfl).trans rfl
theorem q58_200 (d : Nat) (a0 : Value) (a1 : Value) (a2 : Value) (a3 : Value) (a4 : Value) (a5 : Value) (x : Int32) (l : zL) (st : List Value) (h : zH) : zXf zT znl d 58 200 (a0 :: a1 :: a2 :: a3 :: a4 :: a5 :: .int x :: l) st h = zXf zT znl d 58 202 (a0 :: a1 :: a2 :: a3 :: a4 :: a5 :: .int x :: l) (.int x :: st) h := (zXq (op := oIl 6 202) zT_58 rfl).trans rfl
theorem q58_202 (d : Nat) (lo : zL) (st : List Value) (h : zH) : zXf zT znl d 58 202 lo st h = zXf zT znl d 58 203 lo (.int (nI 0) :: st) h := (zXq (op := oPush 0 203) zT_58 rfl).trans rfl
theorem q58_203 (d : Nat) (lo : zL) (st : List Value) (h : zH) : zXf zT znl d 58 203 lo st h = zXf zT znl d 58 205 lo (.int (nI 99) :: st) h := (zXq (op := oPush 99 205) zT_58 rfl).trans rfl
theorem q58_205 (d : Nat) (lo : zL) (x0 x1 x2 : Value) (h : zH) : zXf zT znl d 58 205 lo [x2, x1, x0] h = (zCf zT znl d 4 [x0, x1, x2] h).bind fun o => zXf zT znl d 58 208 lo (o.1.toList ++ []) o.2 := (zXq (op := oC3 98 4 208) zT_58 rfl).trans (zB_cl rfl rfl)
theorem q58_208 (d : Nat) (lo : zL) (x : Int32) (h : zH) : zXf zT znl d 58 208 lo [.int x] h = some (some (.int x), h) := (zXq (op := oIret) zT_58 rfl).trans rfl
theorem q59_0 (d : Nat) (a0 : Value) (a1 : Value) (x : Int32) (l : zL) (st : List Value) (h : zH) : zXf zT znl d 59 0 (a0 :: a1 :: .int x :: l) st h = zXf zT znl d 59 1 (a0 :: a1 :: .int x :: l) (.int x :: st) h := (zXq (op := oIl 2 1) zT_59 rfl).trans rfl
theorem q59_1 (d : Nat) (lo : zL) (st : List Value) (h : zH) : zXf zT znl d 59 1 lo st h = zXf zT znl d 59 3 lo (.int (nI 8) :: st) h := (zXq (op := oPush 8 3) zT_59 rfl).trans rfl
theorem q59_3 (d : Nat) (lo : zL) (x y : Int32) (st : List Value) (h : zH) : zXf zT znl d 59 3 lo (.int y :: .int x :: st) h = if x = y then zXf zT znl d 59 6 lo st h else zXf zT znl d 59 12 lo st h := (zXq (op := oCNe 12 6) zT_59 rfl).trans (zB_if _ _)
theorem q59_6 (d : Nat) (x : Nat) (l : zL) (st : List Value) (h : zH) : zXf zT znl d 59 6 (.ref x :: l) st h = zXf zT znl d 59 7 (.ref x :: l) (.ref x :: st) h := (zXq (op := oAl 0 7) zT_59 rfl).trans rfl
theorem q59_7 (d : Nat) (a0 : Value) (x : Int32) (l : zL) (st : List Value) (h : zH) : zXf zT znl d 59 7 (a0 :: .int x :: l) st h = zXf zT znl d 59 8 (a0 :: .int x :: l) (.int x :: st) h := (zXq (op := oIl 1 8) zT_59 rfl).trans rfl
theorem q59_8 (d : Nat) (lo : zL) (x0 x1 : Value) (h : zH) (hr : zrc 5 [x0, x1] = true) : zXf zT znl d 59 8 lo [x1, x0] h = (zCf zT znl d 58 [x0, x1] h).bind fun o => zXf zT znl d 59 11 lo (o.1.toList ++ []) o.2 := (zXq (op := oC2 5 58 11) zT_59 rfl).trans (zB_cl rfl hr)
theorem q59_11 (d : Nat) (lo : zL) (x : Int32) (h : zH) : zXf zT znl d 59 11 lo [.int x] h = some (some (.int x), h) := (zXq (op := oIret) zT_59 rfl).trans rfl
theorem q59_12 (d : Nat) (a0 : Value) (a1 : Value) (x : Int32) (l : zL) (st : List Value) (h : zH) : zXf zT znl d 59 12 (a0 :: a1 :: .int x :: l) st h = zXf zT znl d 59 13 (a0 :: a1 :: .int x :: l) (.int x :: st) h := (zXq (op := oIl 2 13) zT_59 rfl).trans rfl
theorem q59_13 (d : Nat) (lo : zL) (st : List Value) (h : zH) : zXf zT znl d 59 13 lo st h = zXf zT znl d 59 15 lo (.int (nI 9) :: st) h := (zXq (op := oPush 9 15) zT_59 rfl).trans rfl
theorem q59_15 (d : Nat) (lo : zL) (x y : Int32) (st : List Value) (h : zH) : zXf zT znl d 59 15 lo (.int y :: .int x :: st) h = if x = y then zXf zT znl d 59 18 lo st h else zXf zT znl d 59 32 lo st h := (zXq (op := oCNe 32 18) zT_59 rfl).trans (zB_if _ _)
theorem q59_18 (d : Nat) (x : Nat) (l : zL) (st : List Value) (h : zH) : zXf zT znl d 59 18 (.ref x :: l) st h = zXf zT znl d 59 19 (.ref x :: l) (.ref x :: st) h := (zXq (op := oAl 0 19) zT_59 rfl).trans rfl
theorem q59_19 (d : Nat) (lo : zL) (st : List Value) (h : zH) : zXf zT znl d 59 19 lo st h = zB zT znl d 59 (oGf 5 2 22 lo st h) := zXq (op := oGf 5 2 22) zT_59 rfl
theorem q59_22 (d : Nat) (a0 : Value) (x : Int32) (l : zL) (st : List Value) (h : zH) : zXf zT znl d 59 22 (a0 :: .int x :: l) st h = zXf zT znl d 59 23 (a0 :: .int x :: l) (.int x :: st) h := (zXq (op := oIl 1 23) zT_59 rfl).trans rfl
theorem q59_23 (d : Nat) (lo : zL) (st : List Value) (h : zH) : zXf zT znl d 59 23 lo st h = zB zT znl d 59 (oAald 24 lo st h) := zXq (op := oAald 24) zT_59 rfl
theorem q59_24 (d : Nat) (x : Nat) (l : zL) (st : List Value) (h : zH) : zXf zT znl d 59 24 (.ref x :: l) st h = zXf zT znl d 59 25 (.ref x :: l) (.ref x :: st) h := (zXq (op := oAl 0 25) zT_59 rfl).trans rfl
theorem q59_25 (d : Nat) (lo : zL) (st : List Value) (h : zH) : zXf zT znl d 59 25 lo st h = zB zT znl d 59 (oGf 5 9 28 lo st h) := zXq (op := oGf 5 9 28) zT_59 rfl
theorem q59_28 (d : Nat) (lo : zL) (x0 x1 : Value) (h : zH) : zXf zT znl d 59 28 lo [x1, x0] h = (zCf zT znl d 3 [x0, x1] h).bind fun o => zXf zT znl d 59 31 lo (o.1.toList ++ []) o.2 := (zXq (op := oC2 98 3 31) zT_59 rfl).trans (zB_cl rfl rfl)
theorem q59_31 (d : Nat) (lo : zL) (x : Int32) (h : zH) : zXf zT znl d 59 31 lo [.int x] h = some (some (.int x), h) := (zXq (op := oIret) zT_59 rfl).trans rfl
theorem q59_32 (d : Nat) (x : Nat) (l : zL) (st : List Value) (h : zH) : zXf zT znl d 59 32 (.ref x :: l) st h = zXf zT znl d 59 33 (.ref x :: l) (.ref x :: st) h := (zXq (op := oAl 0 33) zT_59 rfl).trans rfl
theorem q59_33 (d : Nat) (lo : zL) (st : List Value) (h : zH) : zXf zT znl d 59 33 lo st h = zB zT znl d 59 (oGf 5 2 36 lo st h) := zXq (op := oGf 5 2 36) zT_59 rfl
theorem q59_36 (d : Nat) (a0 : Value) (x : Int32) (l : zL) (st : List Value) (h : zH) : zXf zT znl d 59 36 (a0 :: .int x :: l) st h = zXf zT znl d 59 37 (a0 :: .int x :: l) (.int x :: st) h := (zXq (op := oIl 1 37) zT_59 rfl).trans rfl
theorem q59_37 (d : Nat) (lo : zL) (st : List Value) (h : zH) : zXf zT znl d 59 37 lo st h = zB zT znl d 59 (oAald 38 lo st h) := zXq (op := oAald 38) zT_59 rfl
theorem q59_38 (d : Nat) (a0 : Value) (a1 : Value) (x : Int32) (l : zL) (st : List Value) (h : zH) : zXf zT znl d 59 38 (a0 :: a1 :: .int x :: l) st h = zXf zT znl d 59 39 (a0 :: a1 :: .int x :: l) (.int x :: st) h := (zXq (op := oIl 2 39) zT_59 rfl).trans rfl
theorem q59_39 (d : Nat) (lo : zL) (st : List Value) (h : zH) : zXf zT znl d 59 39 lo st h = zB zT znl d 59 (oIald 40 lo st h) := zXq (op := oIald 40) zT_59 rfl
theorem q59_40 (d : Nat) (lo : zL) (x : Int32) (h : zH) : zXf zT znl d 59 40 lo [.int x] h = some (some (.int x), h) := (zXq (op := oIret) zT_59 rfl).trans rfl
theorem q60_0 (d : Nat) (a0 : Value) (x : Int32) (l : zL) (st : List Value) (h : zH) : zXf zT znl d 60 0 (a0 :: .int x :: l) st h = zXf zT znl d 60 1 (a0 :: .int x :: l) (.int x :: st) h := (zXq (op := oIl 1 1) zT_60 rfl).trans rfl
theorem q60_1 (d : Nat) (lo : zL) (x : Int32) (st : List Value) (h : zH) : zXf zT znl d 60 1 lo (.int x :: st) h = if x = nI 0 then zXf zT znl d 60 4 lo st h else zXf zT znl d 60 11 lo st h := (zXq (op := oNe0 11 4) zT_60 rfl).trans (zB_if _ _)
theorem q60_4 (d : Nat) (x : Nat) (l : zL) (st : List Value) (h : zH) : zXf zT znl d 60 4 (.ref x :: l) st h = zXf zT znl d 60 5 (.ref x :: l) (.ref x :: st) h := (zXq (op := oAl 0 5) zT_60 rfl).trans rfl
theorem q60_5 (d : Nat) (lo : zL) (st : List Value) (h : zH) : zXf zT znl d 60 5 lo st h = zB zT znl d 60 (oGf 5 3 8 lo st h) := zXq (op := oGf 5 3 8) zT_60 rfl
theorem q60_8 (d : Nat) (lo : zL) (st : List Value) (h : zH) : zXf zT znl d 60 8 lo st h = zXf zT znl d 60 15 lo st h := (zXq (op := oGoto 15) zT_60 rfl).trans rfl
theorem q60_11 (d : Nat) (x : Nat) (l : zL) (st : List Value) (h : zH) : zXf zT znl d 60 11 (.ref x :: l) st h = zXf zT znl d 60 12 (.ref x :: l) (.ref x :: st) h := (zXq (op := oAl 0 12) zT_60 rfl).trans rfl
theorem q60_12 (d : Nat) (lo : zL) (st : List Value) (h : zH) : zXf zT znl d 60 12 lo st h = zB zT znl d 60 (oGf 5 4 15 lo st h) := zXq (op := oGf 5 4 15) zT_60 rfl
theorem q60_15 (d : Nat) (lo : zL) (x : Nat) (h : zH) : zXf zT znl d 60 15 lo [.ref x] h = some (some (.ref x), h) := (zXq (op := oAret) zT_60 rfl).trans rfl
theorem q61_0 (d : Nat) (lo : zL) (st : List Value) (h : zH) : zXf zT znl d 61 0 lo st h = zXf zT znl d 61 1 lo (.int (nI 0) :: st) h := (zXq (op := oPush 0 1) zT_61 rfl).trans rfl
theorem q61_1 (d : Nat) (a0 : Value) (a1 : Value) (a2 : Value) (a3 : Value) (a4 : Value) (x : Int32) (l : zL) (st : List Value) (h : zH) (hz : zokv a3 = true) : zXf zT znl d 61 1 (a0 :: a1 :: a2 :: a3 :: a4 :: l) (.int x :: st) h = zXf zT znl d 61 3 (a0 :: a1 :: a2 :: a3 :: .int x :: l) st h := by
  refine (zXq (op := oIs 4 3) zT_61 rfl).trans ?_
  simp only [oIs, zok, hz, Bool.and_self, if_true, List.set_cons_succ, List.set_cons_zero, zB_go]
theorem q61_3 (d : Nat) (a0 : Value) (a1 : Value) (a2 : Value) (a3 : Value) (x : Int32) (l : zL) (st : List Value) (h : zH) : zXf zT znl d 61 3 (a0 :: a1 :: a2 :: a3 :: .int x :: l) st h = zXf zT znl d 61 5 (a0 :: a1 :: a2 :: a3 :: .int x :: l) (.int x :: st) h := (zXq (op := oIl 4 5) zT_61 rfl).trans rfl
theorem q61_5 (d : Nat) (a0 : Value) (a1 : Value) (a2 : Value) (x : Int32) (l : zL) (st : List Value) (h : zH) : zXf zT znl d 61 5 (a0 :: a1 :: a2 :: .int x :: l) st h = zXf zT znl d 61 6 (a0 :: a1 :: a2 :: .int x :: l) (.int x :: st) h := (zXq (op := oIl 3 6) zT_61 rfl).trans rfl
theorem q61_6 (d : Nat) (lo : zL) (x y : Int32) (st : List Value) (h : zH) : zXf zT znl d 61 6 lo (.int y :: .int x :: st) h = if y ≤ x then zXf zT znl d 61 55 lo st h else zXf zT znl d 61 9 lo st h := (zXq (op := oCGe 55 9) zT_61 rfl).trans (zB_if _ _)
theorem q61_9 (d : Nat) (x : Nat) (l : zL) (st : List Value) (h : zH) : zXf zT znl d 61 9 (.ref x :: l) st h = zXf zT znl d 61 10 (.ref x :: l) (.ref x :: st) h := (zXq (op := oAl 0 10) zT_61 rfl).trans rfl
theorem q61_10 (d : Nat) (lo : zL) (st : List Value) (h : zH) : zXf zT znl d 61 10 lo st h = zB zT znl d 61 (oGf 5 13 13 lo st h) := zXq (op := oGf 5 13 13) zT_61 rfl
theorem q61_13 (d : Nat) (lo : zL) (st : List Value) (h : zH) : zXf zT znl d 61 13 lo st h = zXf zT znl d 61 15 lo (.int (nI 60) :: st) h := (zXq (op := oPush 60 15) zT_61 rfl).trans rfl
theorem q61_15 (d : Nat) (lo : zL) (x y : Int32) (st : List Value) (h : zH) : zXf zT znl d 61 15 lo (.int y :: .int x :: st) h = if y ≤ x then zXf zT znl d 61 55 lo st h else zXf zT znl d 61 18 lo st h := (zXq (op := oCGe 55 18) zT_61 rfl).trans (zB_if _ _)
theorem q61_18 (d : Nat) (x : Nat) (l : zL) (st : List Value) (h : zH) : zXf zT znl d 61 18 (.ref x :: l) st h = zXf zT znl d 61 19 (.ref x :: l) (.ref x :: st) h := (zXq (op := oAl 0 19) zT_61 rfl).trans rfl
theorem q61_19 (d : Nat) (lo : zL) (st : List Value) (h : zH) : zXf zT znl d 61 19 lo st h = zB zT znl d 61 (oGf 5 7 22 lo st h) := zXq (op := oGf 5 7 22) zT_61 rfl
theorem q61_22 (d : Nat) (x : Nat) (l : zL) (st : List Value) (h : zH) : zXf zT znl d 61 22 (.ref x :: l) st h = zXf zT znl d 61 23 (.ref x :: l) (.ref x :: st) h := (zXq (op := oAl 0 23) zT_61 rfl).trans rfl
theorem q61_23 (d : Nat) (lo : zL) (st : List Value) (h : zH) : zXf zT znl d 61 23 lo st h = zB zT znl d 61 (oGf 5 13 26 lo st h) := zXq (op := oGf 5 13 26) zT_61 rfl
theorem q61_26 (d : Nat) (a0 : Value) (x : Int64) (l : zL) (st : List Value) (h : zH) : zXf zT znl d 61 26 (a0 :: .long x :: l) st h = zXf zT znl d 61 27 (a0 :: .long x :: l) (.long x :: st) h := (zXq (op := oLl 1 27) zT_61 rfl).trans rfl
theorem q61_27 (d : Nat) (lo : zL) (st : List Value) (h : zH) : zXf zT znl d 61 27 lo st h = zXf zT znl d 61 29 lo (.int (nI 8) :: st) h := (zXq (op := oPush 8 29) zT_61 rfl).trans rfl
theorem q61_29 (d : Nat) (a0 : Value) (a1 : Value) (a2 : Value) (a3 : Value) (x : Int32) (l : zL) (st : List Value) (h : zH) : zXf zT znl d 61 29 (a0 :: a1 :: a2 :: a3 :: .int x :: l) st h = zXf zT znl d 61 31 (a0 :: a1 :: a2 :: a3 :: .int x :: l) (.int x :: st) h := (zXq (op := oIl 4 31) zT_61 rfl).trans rfl
theorem q61_31 (d : Nat) (lo : zL) (x y : Int32) (st : List Value) (h : zH) : zXf zT znl d 61 31 lo (.int y :: .int x :: st) h = zXf zT znl d 61 32 lo (.int (x * y) :: st) h := (zXq (op := oBin (fun x y => x * y) 32) zT_61 rfl).trans rfl
theorem q61_32 (d : Nat) (lo : zL) (x : Int64) (y : Int32) (st : List Value) (h : zH) : zXf zT znl d 61 32 lo (.int y :: .long x :: st) h = zXf zT znl d 61 33 lo (.long ((x.toUInt64 >>> (y.toInt64.toUInt64 &&& Int64.toUInt64 63)).toInt64) :: st) h := (zXq (op := oShL (fun x y => (x.toUInt64 >>> (y.toInt64.toUInt64 &&& Int64.toUInt64 63)).toInt64) 33) zT_61 rfl).trans rfl
theorem q61_33 (d : Nat) (lo : zL) (x : Int64) (st : List Value) (h : zH) : zXf zT znl d 61 33 lo (.long x :: st) h = zXf zT znl d 61 34 lo (.int x.toInt32 :: st) h := (zXq (op := oL2i 34) zT_61 rfl).trans rfl
theorem q61_34 (d : Nat) (lo : zL) (st : List Value) (h : zH) : zXf zT znl d 61 34 lo st h = zXf zT znl d 61 37 lo (.int (nI 255) :: st) h := (zXq (op := oPush 255 37) zT_61 rfl).trans rfl
theorem q61_37 (d : Nat) (lo : zL) (x y : Int32) (st : List Value) (h : zH) : zXf zT znl d 61 37 lo (.int y :: .int x :: st) h = zXf zT znl d 61 38 lo (.int (x &&& y) :: st) h := (zXq (op := oBin (fun x y => x &&& y) 38) zT_61 rfl).trans rfl
theorem q61_38 (d : Nat) (lo : zL) (st : List Value) (h : zH) : zXf zT znl d 61 38 lo st h = zB zT znl d 61 (oIast 39 lo st h) := zXq (op := oIast 39) zT_61 rfl
theorem q61_39 (d : Nat) (x : Nat) (l : zL) (st : List Value) (h : zH) : zXf zT znl d 61 39 (.ref x :: l) st h = zXf zT znl d 61 40 (.ref x :: l) (.ref x :: st) h := (zXq (op := oAl 0 40) zT_61 rfl).trans rfl
theorem q61_40i (d : Nat) (lo : zL) (x : Int32) (st : List Value) (h : zH) : zXf zT znl d 61 40 lo (.int x :: st) h = zXf zT znl d 61 41 lo (.int x :: .int x :: st) h := (zXq (op := oDup 41) zT_61 rfl).trans rfl
theorem q61_40r (d : Nat) (lo : zL) (x : Nat) (st : List Value) (h : zH) : zXf zT znl d 61 40 lo (.ref x :: st) h = zXf zT znl d 61 41 lo (.ref x :: .ref x :: st) h := (zXq (op := oDup 41) zT_61 rfl).trans rfl
theorem q61_41 (d : Nat) (lo : zL) (st : List Value) (h : zH) : zXf zT znl d 61 41 lo st h = zB zT znl d 61 (oGf 5 13 44 lo st h) := zXq (op := oGf 5 13 44) zT_61 rfl
theorem q61_44 (d : Nat) (lo : zL) (st : List Value) (h : zH) : zXf zT znl d 61 44 lo st h = zXf zT znl d 61 45 lo (.int (nI 1) :: st) h := (zXq (op := oPush 1 45) zT_61 rfl).trans rfl
theorem q61_45 (d : Nat) (lo : zL) (x y : Int32) (st : List Value) (h : zH) : zXf zT znl d 61 45 lo (.int y :: .int x :: st) h = zXf zT znl d 61 46 lo (.int (x + y) :: st) h := (zXq (op := oBin (fun x y => x + y) 46) zT_61 rfl).trans rfl
theorem q61_46 (d : Nat) (lo : zL) (st : List Value) (h : zH) : zXf zT znl d 61 46 lo st h = zB zT znl d 61 (oPf 5 13 49 lo st h) := zXq (op := oPf 5 13 49) zT_61 rfl
theorem q61_49 (d : Nat) (a0 : Value) (a1 : Value) (a2 : Value) (a3 : Value) (x : Int32) (l : zL) (st : List Value) (h : zH) (hz : zokv a3 = true) : zXf zT znl d 61 49 (a0 :: a1 :: a2 :: a3 :: .int x :: l) st h = zXf zT znl d 61 52 (a0 :: a1 :: a2 :: a3 :: .int (x + nI 1) :: l) st h := by
  refine (zXq (op := oInc 4 1 52) zT_61 rfl).trans ?_
  simp only [oInc, List.getElem?_cons_succ, List.getElem?_cons_zero, zok, hz, Bool.and_self, if_true, List.set_cons_succ, List.set_cons_zero, zB_go]
  try rfl
theorem q61_52 (d : Nat) (lo : zL) (st : List Value) (h : zH) : zXf zT znl d 61 52 lo st h = zXf zT znl d 61 3 lo st h := (zXq (op := oGoto 3) zT_61 rfl).trans rfl
theorem q61_55 (d : Nat) (lo : zL) (h : zH) : zXf zT znl d 61 55 lo [] h = some (none, h) := (zXq (op := oRet) zT_61 rfl).trans rfl
theorem q62_0 (d : Nat) (lo : zL) (st : List Value) (h : zH) : zXf zT znl d 62 0 lo st h = zXf zT znl d 62 1 lo (.int (nI 0) :: st) h := (zXq (op := oPush 0 1) zT_62 rfl).trans rfl
theorem q62_1 (d : Nat) (a0 : Value) (a1 : Value) (x : Int32) (l : zL) (st : List Value) (h : zH) (hz : zokv a0 = true) : zXf zT znl d 62 1 (a0 :: a1 :: l) (.int x :: st) h = zXf zT znl d 62 2 (a0 :: .int x :: l) st h := by
  refine (zXq (op := oIs 1 2) zT_62 rfl).trans ?_
  simp only [oIs, zok, hz, Bool.and_self, if_true, List.set_cons_succ, List.set_cons_zero, zB_go]
theorem q62_2 (d : Nat) (a0 : Value) (x : Int32) (l : zL) (st : List Value) (h : zH) : zXf zT znl d 62 2 (a0 :: .int x :: l) st h = zXf zT znl d 62 3 (a0 :: .int x :: l) (.int x :: st) h := (zXq (op := oIl 1 3) zT_62 rfl).trans rfl
theorem q62_3 (d : Nat) (x : Nat) (l : zL) (st : List Value) (h : zH) : zXf zT znl d 62 3 (.ref x :: l) st h = zXf zT znl d 62 4 (.ref x :: l) (.ref x :: st) h := (zXq (op := oAl 0 4) zT_62 rfl).trans rfl
theorem q62_4 (d : Nat) (lo : zL) (st : List Value) (h : zH) : zXf zT znl d 62 4 lo st h = zB zT znl d 62 (oGf 5 12 7 lo st h) := zXq (op := oGf 5 12 7) zT_62 rfl
theorem q62_7 (d : Nat) (lo : zL) (x y : Int32) (st : List Value) (h : zH) : zXf zT znl d 62 7 lo (.int y :: .int x :: st) h = if y ≤ x then zXf zT znl d 62 27 lo st h else zXf zT znl d 62 10 lo st h := (zXq (op := oCGe 27 10) zT_62 rfl).trans (zB_if _ _)
theorem q62_10 (d : Nat) (x : Nat) (l : zL) (st : List Value) (h : zH) : zXf zT znl d 62 10 (.ref x :: l) st h = zXf zT znl d 62 11 (.ref x :: l) (.ref x :: st) h := (zXq (op := oAl 0 11) zT_62 rfl).trans rfl
theorem q62_11 (d : Nat) (lo : zL) (st : List Value) (h : zH) : zXf zT znl d 62 11 lo st h = zB zT znl d 62 (oGf 5 6 14 lo st h) := zXq (op := oGf 5 6 14) zT_62 rfl
theorem q62_14 (d : Nat) (a0 : Value) (x : Int32) (l : zL) (st : List Value) (h : zH) : zXf zT znl d 62 14 (a0 :: .int x :: l) st h = zXf zT znl d 62 15 (a0 :: .int x :: l) (.int x :: st) h := (zXq (op := oIl 1 15) zT_62 rfl).trans rfl
theorem q62_15 (d : Nat) (x : Nat) (l : zL) (st : List Value) (h : zH) : zXf zT znl d 62 15 (.ref x :: l) st h = zXf zT znl d 62 16 (.ref x :: l) (.ref x :: st) h := (zXq (op := oAl 0 16) zT_62 rfl).trans rfl
theorem q62_16 (d : Nat) (a0 : Value) (x : Int32) (l : zL) (st : List Value) (h : zH) : zXf zT znl d 62 16 (a0 :: .int x :: l) st h = zXf zT znl d 62 17 (a0 :: .int x :: l) (.int x :: st) h := (zXq (op := oIl 1 17) zT_62 rfl).trans rfl
theorem q62_17 (d : Nat) (lo : zL) (x0 x1 s0 s1 : Value) (h : zH) (hr : zrc 5 [x0, x1] = true) : zXf zT znl d 62 17 lo [x1, x0, s0, s1] h = (zCf zT znl d 58 [x0, x1] h).bind fun o => zXf zT znl d 62 20 lo (o.1.toList ++ [s0, s1]) o.2 := (zXq (op := oC2 5 58 20) zT_62 rfl).trans (zB_cl rfl hr)
theorem q62_20 (d : Nat) (lo : zL) (st : List Value) (h : zH) : zXf zT znl d 62 20 lo st h = zB zT znl d 62 (oIast 21 lo st h) := zXq (op := oIast 21) zT_62 rfl
theorem q62_21 (d : Nat) (a0 : Value) (x : Int32) (l : zL) (st : List Value) (h : zH) (hz : zokv a0 = true) : zXf zT znl d 62 21 (a0 :: .int x :: l) st h = zXf zT znl d 62 24 (a0 :: .int (x + nI 1) :: l) st h := by
  refine (zXq (op := oInc 1 1 24) zT_62 rfl).trans ?_
  simp only [oInc, List.getElem?_cons_succ, List.getElem?_cons_zero, zok, hz, Bool.and_self, if_true, List.set_cons_succ, List.set_cons_zero, zB_go]
  try rfl
theorem q62_24 (d : Nat) (lo : zL) (st : List Value) (h : zH) : zXf zT znl d 62 24 lo st h = zXf zT znl d 62 2 lo st h := (zXq (op := oGoto 2) zT_62 rfl).trans rfl
theorem q62_27 (d : Nat) (lo : zL) (h : zH) : zXf zT znl d 62 27 lo [] h = some (none, h) := (zXq (op := oRet) zT_62 rfl).trans rfl
theorem q63_0 (d : Nat) (lo : zL) (st : List Value) (h : zH) : zXf zT znl d 63 0 lo st h = zXf zT znl d 63 1 lo (.int ((-1)) :: st) h := (zXq (op := oPush (-1) 1) zT_63 rfl).trans rfl
theorem q63_1 (d : Nat) (a0 : Value) (a1 : Value) (x : Int32) (l : zL) (st : List Value) (h : zH) (hz : zokv a0 = true) : zXf zT znl d 63 1 (a0 :: a1 :: l) (.int x :: st) h = zXf zT znl d 63 2 (a0 :: .int x :: l) st h := by
  refine (zXq (op := oIs 1 2) zT_63 rfl).trans ?_
  simp only [oIs, zok, hz, Bool.and_self, if_true, List.set_cons_succ, List.set_cons_zero, zB_go]
theorem q63_2 (d : Nat) (lo : zL) (st : List Value) (h : zH) : zXf zT znl d 63 2 lo st h = zXf zT znl d 63 3 lo (.int (nI 0) :: st) h := (zXq (op := oPush 0 3) zT_63 rfl).trans rfl
theorem q63_3 (d : Nat) (a0 : Value) (a1 : Value) (a2 : Value) (x : Int32) (l : zL) (st : List Value) (h : zH) (hz : zokv a1 = true) : zXf zT znl d 63 3 (a0 :: a1 :: a2 :: l) (.int x :: st) h = zXf zT znl d 63 4 (a0 :: a1 :: .int x :: l) st h := by
  refine (zXq (op := oIs 2 4) zT_63 rfl).trans ?_
  simp only [oIs, zok, hz, Bool.and_self, if_true, List.set_cons_succ, List.set_cons_zero, zB_go]
theorem q63_4 (d : Nat) (lo : zL) (st : List Value) (h : zH) : zXf zT znl d 63 4 lo st h = zXf zT znl d 63 5 lo (.int (nI 0) :: st) h := (zXq (op := oPush 0 5) zT_63 rfl).trans rfl
theorem q63_5 (d : Nat) (a0 : Value) (a1 : Value) (a2 : Value) (a3 : Value) (x : Int32) (l : zL) (st : List Value) (h : zH) (hz : zokv a2 = true) : zXf zT znl d 63 5 (a0 :: a1 :: a2 :: a3 :: l) (.int x :: st) h = zXf zT znl d 63 6 (a0 :: a1 :: a2 :: .int x :: l) st h := by
  refine (zXq (op := oIs 3 6) zT_63 rfl).trans ?_
  simp only [oIs, zok, hz, Bool.and_self, if_true, List.set_cons_succ, List.set_cons_zero, zB_go]
theorem q63_6 (d : Nat) (a0 : Value) (a1 : Value) (a2 : Value) (x : Int32) (l : zL) (st : List Value) (h : zH) : zXf zT znl d 63 6 (a0 :: a1 :: a2 :: .int x :: l) st h = zXf zT znl d 63 7 (a0 :: a1 :: a2 :: .int x :: l) (.int x :: st) h := (zXq (op := oIl 3 7) zT_63 rfl).trans rfl
theorem q63_7 (d : Nat) (x : Nat) (l : zL) (st : List Value) (h : zH) : zXf zT znl d 63 7 (.ref x :: l) st h = zXf zT znl d 63 8 (.ref x :: l) (.ref x :: st) h := (zXq (op := oAl 0 8) zT_63 rfl).trans rfl
theorem q63_8 (d : Nat) (lo : zL) (st : List Value) (h : zH) : zXf zT znl d 63 8 lo st h = zB zT znl d 63 (oGf 5 12 11 lo st h) := zXq (op := oGf 5 12 11) zT_63 rfl
theorem q63_11 (d : Nat) (lo : zL) (x y : Int32) (st : List Value) (h : zH) : zXf zT znl d 63 11 lo (.int y :: .int x :: st) h = if y ≤ x then zXf zT znl d 63 54 lo st h else zXf zT znl d 63 14 lo st h := (zXq (op := oCGe 54 14) zT_63 rfl).trans (zB_if _ _)
theorem q63_14 (d : Nat) (x : Nat) (l : zL) (st : List Value) (h : zH) : zXf zT znl d 63 14 (.ref x :: l) st h = zXf zT znl d 63 15 (.ref x :: l) (.ref x :: st) h := (zXq (op := oAl 0 15) zT_63 rfl).trans rfl
theorem q63_15 (d : Nat) (lo : zL) (st : List Value) (h : zH) : zXf zT znl d 63 15 lo st h = zB zT znl d 63 (oGf 5 6 18 lo st h) := zXq (op := oGf 5 6 18) zT_63 rfl
theorem q63_18 (d : Nat) (a0 : Value) (a1 : Value) (a2 : Value) (x : Int32) (l : zL) (st : List Value) (h : zH) : zXf zT znl d 63 18 (a0 :: a1 :: a2 :: .int x :: l) st h = zXf zT znl d 63 19 (a0 :: a1 :: a2 :: .int x :: l) (.int x :: st) h := (zXq (op := oIl 3 19) zT_63 rfl).trans rfl
theorem q63_19 (d : Nat) (lo : zL) (st : List Value) (h : zH) : zXf zT znl d 63 19 lo st h = zB zT znl d 63 (oIald 20 lo st h) := zXq (op := oIald 20) zT_63 rfl
theorem q63_20 (d : Nat) (a0 : Value) (a1 : Value) (x : Int32) (l : zL) (st : List Value) (h : zH) : zXf zT znl d 63 20 (a0 :: a1 :: .int x :: l) st h = zXf zT znl d 63 21 (a0 :: a1 :: .int x :: l) (.int x :: st) h := (zXq (op := oIl 2 21) zT_63 rfl).trans rfl
theorem q63_21 (d : Nat) (lo : zL) (x y : Int32) (st : List Value) (h : zH) : zXf zT znl d 63 21 lo (.int y :: .int x :: st) h = if x ≤ y then zXf zT znl d 63 36 lo st h else zXf zT znl d 63 24 lo st h := (zXq (op := oCLe 36 24) zT_63 rfl).trans (zB_if _ _)
theorem q63_24 (d : Nat) (x : Nat) (l : zL) (st : List Value) (h : zH) : zXf zT znl d 63 24 (.ref x :: l) st h = zXf zT znl d 63 25 (.ref x :: l) (.ref x :: st) h := (zXq (op := oAl 0 25) zT_63 rfl).trans rfl
theorem q63_25 (d : Nat) (lo : zL) (st : List Value) (h : zH) : zXf zT znl d 63 25 lo st h = zB zT znl d 63 (oGf 5 6 28 lo st h) := zXq (op := oGf 5 6 28) zT_63 rfl
theorem q63_28 (d : Nat) (a0 : Value) (a1 : Value) (a2 : Value) (x : Int32) (l : zL) (st : List Value) (h : zH) : zXf zT znl d 63 28 (a0 :: a1 :: a2 :: .int x :: l) st h = zXf zT znl d 63 29 (a0 :: a1 :: a2 :: .int x :: l) (.int x :: st) h := (zXq (op := oIl 3 29) zT_63 rfl).trans rfl
theorem q63_29 (d : Nat) (lo : zL) (st : List Value) (h : zH) : zXf zT znl d 63 29 lo st h = zB zT znl d 63 (oIald 30 lo st h) := zXq (op := oIald 30) zT_63 rfl
theorem q63_30 (d : Nat) (a0 : Value) (a1 : Value) (a2 : Value) (x : Int32) (l : zL) (st : List Value) (h : zH) (hz : zokv a1 = true) : zXf zT znl d 63 30 (a0 :: a1 :: a2 :: l) (.int x :: st) h = zXf zT znl d 63 31 (a0 :: a1 :: .int x :: l) st h := by
  refine (zXq (op := oIs 2 31) zT_63 rfl).trans ?_
  simp only [oIs, zok, hz, Bool.and_self, if_true, List.set_cons_succ, List.set_cons_zero, zB_go]
theorem q63_31 (d : Nat) (a0 : Value) (a1 : Value) (a2 : Value) (x : Int32) (l : zL) (st : List Value) (h : zH) : zXf zT znl d 63 31 (a0 :: a1 :: a2 :: .int x :: l) st h = zXf zT znl d 63 32 (a0 :: a1 :: a2 :: .int x :: l) (.int x :: st) h := (zXq (op := oIl 3 32) zT_63 rfl).trans rfl
theorem q63_32 (d : Nat) (a0 : Value) (a1 : Value) (x : Int32) (l : zL) (st : List Value) (h : zH) (hz : zokv a0 = true) : zXf zT znl d 63 32 (a0 :: a1 :: l) (.int x :: st) h = zXf zT znl d 63 33 (a0 :: .int x :: l) st h := by
  refine (zXq (op := oIs 1 33) zT_63 rfl).trans ?_
  simp only [oIs, zok, hz, Bool.and_self, if_true, List.set_cons_succ, List.set_cons_zero, zB_go]
theorem q63_33 (d : Nat) (lo : zL) (st : List Value) (h : zH) : zXf zT znl d 63 33 lo st h = zXf zT znl d 63 48 lo st h := (zXq (op := oGoto 48) zT_63 rfl).trans rfl
theorem q63_36 (d : Nat) (x : Nat) (l : zL) (st : List Value) (h : zH) : zXf zT znl d 63 36 (.ref x :: l) st h = zXf zT znl d 63 37 (.ref x :: l) (.ref x :: st) h := (zXq (op := oAl 0 37) zT_63 rfl).trans rfl
theorem q63_37 (d : Nat) (lo : zL) (st : List Value) (h : zH) : zXf zT znl d 63 37 lo st h = zB zT znl d 63 (oGf 5 6 40 lo st h) := zXq (op := oGf 5 6 40) zT_63 rfl
theorem q63_40 (d : Nat) (a0 : Value) (a1 : Value) (a2 : Value) (x : Int32) (l : zL) (st : List Value) (h : zH) : zXf zT znl d 63 40 (a0 :: a1 :: a2 :: .int x :: l) st h = zXf zT znl d 63 41 (a0 :: a1 :: a2 :: .int x :: l) (.int x :: st) h := (zXq (op := oIl 3 41) zT_63 rfl).trans rfl
theorem q63_41 (d : Nat) (lo : zL) (st : List Value) (h : zH) : zXf zT znl d 63 41 lo st h = zB zT znl d 63 (oIald 42 lo st h) := zXq (op := oIald 42) zT_63 rfl
theorem q63_42 (d : Nat) (a0 : Value) (a1 : Value) (x : Int32) (l : zL) (st : List Value) (h : zH) : zXf zT znl d 63 42 (a0 :: a1 :: .int x :: l) st h = zXf zT znl d 63 43 (a0 :: a1 :: .int x :: l) (.int x :: st) h := (zXq (op := oIl 2 43) zT_63 rfl).trans rfl
theorem q63_43 (d : Nat) (lo : zL) (x y : Int32) (st : List Value) (h : zH) : zXf zT znl d 63 43 lo (.int y :: .int x :: st) h = if x = y then zXf zT znl d 63 46 lo st h else zXf zT znl d 63 48 lo st h := (zXq (op := oCNe 48 46) zT_63 rfl).trans (zB_if _ _)
theorem q63_46 (d : Nat) (lo : zL) (st : List Value) (h : zH) : zXf zT znl d 63 46 lo st h = zXf zT znl d 63 47 lo (.int ((-1)) :: st) h := (zXq (op := oPush (-1) 47) zT_63 rfl).trans rfl
theorem q63_47 (d : Nat) (a0 : Value) (a1 : Value) (x : Int32) (l : zL) (st : List Value) (h : zH) (hz : zokv a0 = true) : zXf zT znl d 63 47 (a0 :: a1 :: l) (.int x :: st) h = zXf zT znl d 63 48 (a0 :: .int x :: l) st h := by
  refine (zXq (op := oIs 1 48) zT_63 rfl).trans ?_
  simp only [oIs, zok, hz, Bool.and_self, if_true, List.set_cons_succ, List.set_cons_zero, zB_go]
theorem q63_48 (d : Nat) (a0 : Value) (a1 : Value) (a2 : Value) (x : Int32) (l : zL) (st : List Value) (h : zH) (hz : zokv a2 = true) : zXf zT znl d 63 48 (a0 :: a1 :: a2 :: .int x :: l) st h = zXf zT znl d 63 51 (a0 :: a1 :: a2 :: .int (x + nI 1) :: l) st h := by
  refine (zXq (op := oInc 3 1 51) zT_63 rfl).trans ?_
  simp only [oInc, List.getElem?_cons_succ, List.getElem?_cons_zero, zok, hz, Bool.and_self, if_true, List.set_cons_succ, List.set_cons_zero, zB_go]
  try rfl
theorem q63_51 (d : Nat) (lo : zL) (st : List Value) (h : zH) : zXf zT znl d 63 51 lo st h = zXf zT znl d 63 6 lo st h := (zXq (op := oGoto 6) zT_63 rfl).trans rfl
theorem q63_54 (d : Nat) (a0 : Value) (x : Int32) (l : zL) (st : List Value) (h : zH) : zXf zT znl d 63 54 (a0 :: .int x :: l) st h = zXf zT znl d 63 55 (a0 :: .int x :: l) (.int x :: st) h := (zXq (op := oIl 1 55) zT_63 rfl).trans rfl
theorem q63_55 (d : Nat) (lo : zL) (x : Int32) (h : zH) : zXf zT znl d 63 55 lo [.int x] h = some (some (.int x), h) := (zXq (op := oIret) zT_63 rfl).trans rfl
theorem q64_0 (d : Nat) (x : Nat) (l : zL) (st : List Value) (h : zH) : zXf zT znl d 64 0 (.ref x :: l) st h = zXf zT znl d 64 1 (.ref x :: l) (.ref x :: st) h := (zXq (op := oAl 0 1) zT_64 rfl).trans rfl
theorem q64_1 (d : Nat) (lo : zL) (st : List Value) (h : zH) : zXf zT znl d 64 1 lo st h = zB zT znl d 64 (oGf 5 1 4 lo st h) := zXq (op := oGf 5 1 4) zT_64 rfl
theorem q64_4 (d : Nat) (lo : zL) (st : List Value) (h : zH) : zXf zT znl d 64 4 lo st h = zXf zT znl d 64 5 lo (.int (nI 2) :: st) h := (zXq (op := oPush 2 5) zT_64 rfl).trans rfl
theorem q64_5 (d : Nat) (lo : zL) (st : List Value) (h : zH) : zXf zT znl d 64 5 lo st h = zB zT znl d 64 (oIald 6 lo st h) := zXq (op := oIald 6) zT_64 rfl
theorem q64_6 (d : Nat) (lo : zL) (x : Int32) (st : List Value) (h : zH) : zXf zT znl d 64 6 lo (.int x :: st) h = if x = nI 0 then zXf zT znl d 64 31 lo st h else zXf zT znl d 64 9 lo st h := (zXq (op := oEq0 31 9) zT_64 rfl).trans (zB_if _ _)
theorem q64_9 (d : Nat) (x : Nat) (l : zL) (st : List Value) (h : zH) : zXf zT znl d 64 9 (.ref x :: l) st h = zXf zT znl d 64 10 (.ref x :: l) (.ref x :: st) h := (zXq (op := oAl 0 10) zT_64 rfl).trans rfl
theorem q64_10 (d : Nat) (lo : zL) (st : List Value) (h : zH) : zXf zT znl d 64 10 lo st h = zB zT znl d 64 (oGf 5 0 13 lo st h) := zXq (op := oGf 5 0 13) zT_64 rfl
theorem q64_13 (d : Nat) (x : Nat) (l : zL) (st : List Value) (h : zH) : zXf zT znl d 64 13 (.ref x :: l) st h = zXf zT znl d 64 14 (.ref x :: l) (.ref x :: st) h := (zXq (op := oAl 0 14) zT_64 rfl).trans rfl
theorem q64_14 (d : Nat) (lo : zL) (st : List Value) (h : zH) : zXf zT znl d 64 14 lo st h = zB zT znl d 64 (oGf 5 9 17 lo st h) := zXq (op := oGf 5 9 17) zT_64 rfl
theorem q64_17 (d : Nat) (lo : zL) (st : List Value) (h : zH) : zXf zT znl d 64 17 lo st h = zB zT znl d 64 (oIald 18 lo st h) := zXq (op := oIald 18) zT_64 rfl
theorem q64_18 (d : Nat) (lo : zL) (st : List Value) (h : zH) : zXf zT znl d 64 18 lo st h = zXf zT znl d 64 19 lo (.int (nI 2) :: st) h := (zXq (op := oPush 2 19) zT_64 rfl).trans rfl
theorem q64_19 (d : Nat) (lo : zL) (x y : Int32) (st : List Value) (h : zH) : zXf zT znl d 64 19 lo (.int y :: .int x :: st) h = if x = y then zXf zT znl d 64 22 lo st h else zXf zT znl d 64 31 lo st h := (zXq (op := oCNe 31 22) zT_64 rfl).trans (zB_if _ _)
theorem q64_22 (d : Nat) (x : Nat) (l : zL) (st : List Value) (h : zH) : zXf zT znl d 64 22 (.ref x :: l) st h = zXf zT znl d 64 23 (.ref x :: l) (.ref x :: st) h := (zXq (op := oAl 0 23) zT_64 rfl).trans rfl
theorem q64_23 (d : Nat) (lo : zL) (st : List Value) (h : zH) : zXf zT znl d 64 23 lo st h = zB zT znl d 64 (oGf 5 10 26 lo st h) := zXq (op := oGf 5 10 26) zT_64 rfl
theorem q64_26 (d : Nat) (lo : zL) (st : List Value) (h : zH) : zXf zT znl d 64 26 lo st h = zXf zT znl d 64 27 lo (.int (nI 2) :: st) h := (zXq (op := oPush 2 27) zT_64 rfl).trans rfl
theorem q64_27 (d : Nat) (lo : zL) (x y : Int32) (st : List Value) (h : zH) (hy : ¬ y = 0) : zXf zT znl d 64 27 lo (.int y :: .int x :: st) h = zXf zT znl d 64 28 lo (.int (x % y) :: st) h := by
  refine (zXq (op := oRem 28) zT_64 rfl).trans ?_
  simp only [oRem, if_neg hy, zB_go]
theorem q64_28 (d : Nat) (lo : zL) (x : Int32) (st : List Value) (h : zH) : zXf zT znl d 64 28 lo (.int x :: st) h = if x = nI 0 then zXf zT znl d 64 31 lo st h else zXf zT znl d 64 35 lo st h := (zXq (op := oNe0 35 31) zT_64 rfl).trans (zB_if _ _)
theorem q64_31 (d : Nat) (lo : zL) (st : List Value) (h : zH) : zXf zT znl d 64 31 lo st h = zXf zT znl d 64 32 lo (.int (nI 1) :: st) h := (zXq (op := oPush 1 32) zT_64 rfl).trans rfl
theorem q64_32 (d : Nat) (lo : zL) (st : List Value) (h : zH) : zXf zT znl d 64 32 lo st h = zXf zT znl d 64 36 lo st h := (zXq (op := oGoto 36) zT_64 rfl).trans rfl
theorem q64_35 (d : Nat) (lo : zL) (st : List Value) (h : zH) : zXf zT znl d 64 35 lo st h = zXf zT znl d 64 36 lo (.int (nI 0) :: st) h := (zXq (op := oPush 0 36) zT_64 rfl).trans rfl
theorem q64_36 (d : Nat) (lo : zL) (x : Int32) (h : zH) (hx : x = 0 ∨ x = 1) : zXf zT znl d 64 36 lo [.int x] h = some (some (.int x), h) := by
  refine (zXq (op := oZret) zT_64 rfl).trans ?_
  simp only [oZret, if_pos hx, zB_end]
theorem q65_0 (d : Nat) (lo : zL) (st : List Value) (h : zH) : zXf zT znl d 65 0 lo st h = zXf zT znl d 65 1 lo (.int (nI 0) :: st) h := (zXq (op := oPush 0 1) zT_65 rfl).trans rfl
theorem q65_1 (d : Nat) (a0 : Value) (a1 : Value) (x : Int32) (l : zL) (st : List Value) (h : zH) (hz : zokv a0 = true) : zXf zT znl d 65 1 (a0 :: a1 :: l) (.int x :: st) h = zXf zT znl d 65 2 (a0 :: .int x :: l) st h := by
  refine (zXq (op := oIs 1 2) zT_65 rfl).trans ?_
  simp only [oIs, zok, hz, Bool.and_self, if_true, List.set_cons_succ, List.set_cons_zero, zB_go]
theorem q65_2 (d : Nat) (lo : zL) (st : List Value) (h : zH) : zXf zT znl d 65 2 lo st h = zXf zT znl d 65 3 lo (.int (nI 0) :: st) h := (zXq (op := oPush 0 3) zT_65 rfl).trans rfl
theorem q65_3 (d : Nat) (a0 : Value) (a1 : Value) (a2 : Value) (x : Int32) (l : zL) (st : List Value) (h : zH) (hz : zokv a1 = true) : zXf zT znl d 65 3 (a0 :: a1 :: a2 :: l) (.int x :: st) h = zXf zT znl d 65 4 (a0 :: a1 :: .int x :: l) st h := by
  refine (zXq (op := oIs 2 4) zT_65 rfl).trans ?_
  simp only [oIs, zok, hz, Bool.and_self, if_true, List.set_cons_succ, List.set_cons_zero, zB_go]
theorem q65_4 (d : Nat) (lo : zL) (st : List Value) (h : zH) : zXf zT znl d 65 4 lo st h = zXf zT znl d 65 5 lo (.int (nI 0) :: st) h := (zXq (op := oPush 0 5) zT_65 rfl).trans rfl
theorem q65_5 (d : Nat) (a0 : Value) (a1 : Value) (a2 : Value) (a3 : Value) (x : Int32) (l : zL) (st : List Value) (h : zH) (hz : zokv a2 = true) : zXf zT znl d 65 5 (a0 :: a1 :: a2 :: a3 :: l) (.int x :: st) h = zXf zT znl d 65 6 (a0 :: a1 :: a2 :: .int x :: l) st h := by
  refine (zXq (op := oIs 3 6) zT_65 rfl).trans ?_
  simp only [oIs, zok, hz, Bool.and_self, if_true, List.set_cons_succ, List.set_cons_zero, zB_go]
theorem q65_6 (d : Nat) (a0 : Value) (a1 : Value) (a2 : Value) (x : Int32) (l : zL) (st : List Value) (h : zH) : zXf zT znl d 65 6 (a0 :: a1 :: a2 :: .int x :: l) st h = zXf zT znl d 65 7 (a0 :: a1 :: a2 :: .int x :: l) (.int x :: st) h := (zXq (op := oIl 3 7) zT_65 rfl).trans rfl
theorem q65_7 (d : Nat) (x : Nat) (l : zL) (st : List Value) (h : zH) : zXf zT znl d 65 7 (.ref x :: l) st h = zXf zT znl d 65 8 (.ref x :: l) (.ref x :: st) h := (zXq (op := oAl 0 8) zT_65 rfl).trans rfl
theorem q65_8 (d : Nat) (lo : zL) (st : List Value) (h : zH) : zXf zT znl d 65 8 lo st h = zB zT znl d 65 (oGf 5 12 11 lo st h) := zXq (op := oGf 5 12 11) zT_65 rfl
theorem q65_11 (d : Nat) (lo : zL) (x y : Int32) (st : List Value) (h : zH) : zXf zT znl d 65 11 lo (.int y :: .int x :: st) h = if y ≤ x then zXf zT znl d 65 82 lo st h else zXf zT znl d 65 14 lo st h := (zXq (op := oCGe 82 14) zT_65 rfl).trans (zB_if _ _)
theorem q65_14 (d : Nat) (x : Nat) (l : zL) (st : List Value) (h : zH) : zXf zT znl d 65 14 (.ref x :: l) st h = zXf zT znl d 65 15 (.ref x :: l) (.ref x :: st) h := (zXq (op := oAl 0 15) zT_65 rfl).trans rfl
theorem q65_15 (d : Nat) (lo : zL) (st : List Value) (h : zH) : zXf zT znl d 65 15 lo st h = zB zT znl d 65 (oGf 5 2 18 lo st h) := zXq (op := oGf 5 2 18) zT_65 rfl
theorem q65_18 (d : Nat) (a0 : Value) (a1 : Value) (a2 : Value) (x : Int32) (l : zL) (st : List Value) (h : zH) : zXf zT znl d 65 18 (a0 :: a1 :: a2 :: .int x :: l) st h = zXf zT znl d 65 19 (a0 :: a1 :: a2 :: .int x :: l) (.int x :: st) h := (zXq (op := oIl 3 19) zT_65 rfl).trans rfl
theorem q65_19 (d : Nat) (lo : zL) (st : List Value) (h : zH) : zXf zT znl d 65 19 lo st h = zB zT znl d 65 (oAald 20 lo st h) := zXq (op := oAald 20) zT_65 rfl
theorem q65_20 (d : Nat) (lo : zL) (st : List Value) (h : zH) : zXf zT znl d 65 20 lo st h = zXf zT znl d 65 21 lo (.int (nI 2) :: st) h := (zXq (op := oPush 2 21) zT_65 rfl).trans rfl
theorem q65_21 (d : Nat) (lo : zL) (st : List Value) (h : zH) : zXf zT znl d 65 21 lo st h = zB zT znl d 65 (oIald 22 lo st h) := zXq (op := oIald 22) zT_65 rfl
theorem q65_22 (d : Nat) (a0 : Value) (a1 : Value) (a2 : Value) (a3 : Value) (a4 : Value) (x : Int32) (l : zL) (st : List Value) (h : zH) (hz : zokv a3 = true) : zXf zT znl d 65 22 (a0 :: a1 :: a2 :: a3 :: a4 :: l) (.int x :: st) h = zXf zT znl d 65 24 (a0 :: a1 :: a2 :: a3 :: .int x :: l) st h := by
  refine (zXq (op := oIs 4 24) zT_65 rfl).trans ?_
  simp only [oIs, zok, hz, Bool.and_self, if_true, List.set_cons_succ, List.set_cons_zero, zB_go]
theorem q65_24 (d : Nat) (a0 : Value) (x : Int32) (l : zL) (st : List Value) (h : zH) : zXf zT znl d 65 24 (a0 :: .int x :: l) st h = zXf zT znl d 65 25 (a0 :: .int x :: l) (.int x :: st) h := (zXq (op := oIl 1 25) zT_65 rfl).trans rfl
theorem q65_25 (d : Nat) (x : Nat) (l : zL) (st : List Value) (h : zH) : zXf zT znl d 65 25 (.ref x :: l) st h = zXf zT znl d 65 26 (.ref x :: l) (.ref x :: st) h := (zXq (op := oAl 0 26) zT_65 rfl).trans rfl
theorem q65_26 (d : Nat) (lo : zL) (st : List Value) (h : zH) : zXf zT znl d 65 26 lo st h = zB zT znl d 65 (oGf 5 6 29 lo st h) := zXq (op := oGf 5 6 29) zT_65 rfl
theorem q65_29 (d : Nat) (a0 : Value) (a1 : Value) (a2 : Value) (x : Int32) (l : zL) (st : List Value) (h : zH) : zXf zT znl d 65 29 (a0 :: a1 :: a2 :: .int x :: l) st h = zXf zT znl d 65 30 (a0 :: a1 :: a2 :: .int x :: l) (.int x :: st) h := (zXq (op := oIl 3 30) zT_65 rfl).trans rfl
theorem q65_30 (d : Nat) (lo : zL) (st : List Value) (h : zH) : zXf zT znl d 65 30 lo st h = zB zT znl d 65 (oIald 31 lo st h) := zXq (op := oIald 31) zT_65 rfl
theorem q65_31 (d : Nat) (a0 : Value) (a1 : Value) (a2 : Value) (a3 : Value) (x : Int32) (l : zL) (st : List Value) (h : zH) : zXf zT znl d 65 31 (a0 :: a1 :: a2 :: a3 :: .int x :: l) st h = zXf zT znl d 65 33 (a0 :: a1 :: a2 :: a3 :: .int x :: l) (.int x :: st) h := (zXq (op := oIl 4 33) zT_65 rfl).trans rfl
theorem q65_33 (d : Nat) (lo : zL) (st : List Value) (h : zH) : zXf zT znl d 65 33 lo st h = zXf zT znl d 65 35 lo (.int (nI 10) :: st) h := (zXq (op := oPush 10 35) zT_65 rfl).trans rfl
theorem q65_35 (d : Nat) (lo : zL) (x y : Int32) (st : List Value) (h : zH) (hy : ¬ y = 0) : zXf zT znl d 65 35 lo (.int y :: .int x :: st) h = zXf zT znl d 65 36 lo (.int (x % y) :: st) h := by
  refine (zXq (op := oRem 36) zT_65 rfl).trans ?_
  simp only [oRem, if_neg hy, zB_go]
theorem q65_36 (d : Nat) (x : Nat) (l : zL) (st : List Value) (h : zH) : zXf zT znl d 65 36 (.ref x :: l) st h = zXf zT znl d 65 37 (.ref x :: l) (.ref x :: st) h := (zXq (op := oAl 0 37) zT_65 rfl).trans rfl
theorem q65_37 (d : Nat) (lo : zL) (st : List Value) (h : zH) : zXf zT znl d 65 37 lo st h = zB zT znl d 65 (oGf 5 9 40 lo st h) := zXq (op := oGf 5 9 40) zT_65 rfl
theorem q65_40 (d : Nat) (lo : zL) (st : List Value) (h : zH) : zXf zT znl d 65 40 lo st h = zXf zT znl d 65 42 lo (.int (nI 10) :: st) h := (zXq (op := oPush 10 42) zT_65 rfl).trans rfl
theorem q65_42 (d : Nat) (lo : zL) (x y : Int32) (st : List Value) (h : zH) (hy : ¬ y = 0) : zXf zT znl d 65 42 lo (.int y :: .int x :: st) h = zXf zT znl d 65 43 lo (.int (x % y) :: st) h := by
  refine (zXq (op := oRem 43) zT_65 rfl).trans ?_
  simp only [oRem, if_neg hy, zB_go]
theorem q65_43 (d : Nat) (lo : zL) (x y : Int32) (st : List Value) (h : zH) : zXf zT znl d 65 43 lo (.int y :: .int x :: st) h = zXf zT znl d 65 44 lo (.int (x - y) :: st) h := (zXq (op := oBin (fun x y => x - y) 44) zT_65 rfl).trans rfl
theorem q65_44 (d : Nat) (lo : zL) (x0 s0 s1 : Value) (h : zH) : zXf zT znl d 65 44 lo [x0, s0, s1] h = (zCf zT znl d 2 [x0] h).bind fun o => zXf zT znl d 65 47 lo (o.1.toList ++ [s0, s1]) o.2 := (zXq (op := oC1 98 2 47) zT_65 rfl).trans (zB_cl rfl rfl)
theorem q65_47 (d : Nat) (lo : zL) (x y : Int32) (st : List Value) (h : zH) : zXf zT znl d 65 47 lo (.int y :: .int x :: st) h = zXf zT znl d 65 48 lo (.int (x * y) :: st) h := (zXq (op := oBin (fun x y => x * y) 48) zT_65 rfl).trans rfl
theorem q65_48 (d : Nat) (lo : zL) (x y : Int32) (st : List Value) (h : zH) : zXf zT znl d 65 48 lo (.int y :: .int x :: st) h = zXf zT znl d 65 49 lo (.int (x + y) :: st) h := (zXq (op := oBin (fun x y => x + y) 49) zT_65 rfl).trans rfl
theorem q65_49 (d : Nat) (a0 : Value) (a1 : Value) (x : Int32) (l : zL) (st : List Value) (h : zH) (hz : zokv a0 = true) : zXf zT znl d 65 49 (a0 :: a1 :: l) (.int x :: st) h = zXf zT znl d 65 50 (a0 :: .int x :: l) st h := by
  refine (zXq (op := oIs 1 50) zT_65 rfl).trans ?_
  simp only [oIs, zok, hz, Bool.and_self, if_true, List.set_cons_succ, List.set_cons_zero, zB_go]
theorem q65_50 (d : Nat) (a0 : Value) (a1 : Value) (x : Int32) (l : zL) (st : List Value) (h : zH) : zXf zT znl d 65 50 (a0 :: a1 :: .int x :: l) st h = zXf zT znl d 65 51 (a0 :: a1 :: .int x :: l) (.int x :: st) h := (zXq (op := oIl 2 51) zT_65 rfl).trans rfl
theorem q65_51 (d : Nat) (x : Nat) (l : zL) (st : List Value) (h : zH) : zXf zT znl d 65 51 (.ref x :: l) st h = zXf zT znl d 65 52 (.ref x :: l) (.ref x :: st) h := (zXq (op := oAl 0 52) zT_65 rfl).trans rfl
theorem q65_52 (d : Nat) (lo : zL) (st : List Value) (h : zH) : zXf zT znl d 65 52 lo st h = zB zT znl d 65 (oGf 5 6 55 lo st h) := zXq (op := oGf 5 6 55) zT_65 rfl
theorem q65_55 (d : Nat) (a0 : Value) (a1 : Value) (a2 : Value) (x : Int32) (l : zL) (st : List Value) (h : zH) : zXf zT znl d 65 55 (a0 :: a1 :: a2 :: .int x :: l) st h = zXf zT znl d 65 56 (a0 :: a1 :: a2 :: .int x :: l) (.int x :: st) h := (zXq (op := oIl 3 56) zT_65 rfl).trans rfl
theorem q65_56 (d : Nat) (lo : zL) (st : List Value) (h : zH) : zXf zT znl d 65 56 lo st h = zB zT znl d 65 (oIald 57 lo st h) := zXq (op := oIald 57) zT_65 rfl
theorem q65_57 (d : Nat) (a0 : Value) (a1 : Value) (a2 : Value) (a3 : Value) (x : Int32) (l : zL) (st : List Value) (h : zH) : zXf zT znl d 65 57 (a0 :: a1 :: a2 :: a3 :: .int x :: l) st h = zXf zT znl d 65 59 (a0 :: a1 :: a2 :: a3 :: .int x :: l) (.int x :: st) h := (zXq (op := oIl 4 59) zT_65 rfl).trans rfl
theorem q65_59 (d : Nat) (lo : zL) (st : List Value) (h : zH) : zXf zT znl d 65 59 lo st h = zXf zT znl d 65 61 lo (.int (nI 10) :: st) h := (zXq (op := oPush 10 61) zT_65 rfl).trans rfl
theorem q65_61 (d : Nat) (lo : zL) (x y : Int32) (st : List Value) (h : zH) (hy : ¬ y = 0) : zXf zT znl d 65 61 lo (.int y :: .int x :: st) h = zXf zT znl d 65 62 lo (.int (x / y) :: st) h := by
  refine (zXq (op := oDiv 62) zT_65 rfl).trans ?_
  simp only [oDiv, if_neg hy, zB_go]
theorem q65_62 (d : Nat) (x : Nat) (l : zL) (st : List Value) (h : zH) : zXf zT znl d 65 62 (.ref x :: l) st h = zXf zT znl d 65 63 (.ref x :: l) (.ref x :: st) h := (zXq (op := oAl 0 63) zT_65 rfl).trans rfl
theorem q65_63 (d : Nat) (lo : zL) (st : List Value) (h : zH) : zXf zT znl d 65 63 lo st h = zB zT znl d 65 (oGf 5 9 66 lo st h) := zXq (op := oGf 5 9 66) zT_65 rfl
theorem q65_66 (d : Nat) (lo : zL) (st : List Value) (h : zH) : zXf zT znl d 65 66 lo st h = zXf zT znl d 65 68 lo (.int (nI 10) :: st) h := (zXq (op := oPush 10 68) zT_65 rfl).trans rfl
theorem q65_68 (d : Nat) (lo : zL) (x y : Int32) (st : List Value) (h : zH) (hy : ¬ y = 0) : zXf zT znl d 65 68 lo (.int y :: .int x :: st) h = zXf zT znl d 65 69 lo (.int (x / y) :: st) h := by
  refine (zXq (op := oDiv 69) zT_65 rfl).trans ?_
  simp only [oDiv, if_neg hy, zB_go]
theorem q65_69 (d : Nat) (lo : zL) (x y : Int32) (st : List Value) (h : zH) : zXf zT znl d 65 69 lo (.int y :: .int x :: st) h = zXf zT znl d 65 70 lo (.int (x - y) :: st) h := (zXq (op := oBin (fun x y => x - y) 70) zT_65 rfl).trans rfl
theorem q65_70 (d : Nat) (lo : zL) (x0 s0 s1 : Value) (h : zH) : zXf zT znl d 65 70 lo [x0, s0, s1] h = (zCf zT znl d 2 [x0] h).bind fun o => zXf zT znl d 65 73 lo (o.1.toList ++ [s0, s1]) o.2 := (zXq (op := oC1 98 2 73) zT_65 rfl).trans (zB_cl rfl rfl)
theorem q65_73 (d : Nat) (lo : zL) (x y : Int32) (st : List Value) (h : zH) : zXf zT znl d 65 73 lo (.int y :: .int x :: st) h = zXf zT znl d 65 74 lo (.int (x * y) :: st) h := (zXq (op := oBin (fun x y => x * y) 74) zT_65 rfl).trans rfl
theorem q65_74 (d : Nat) (lo : zL) (x y : Int32) (st : List Value) (h : zH) : zXf zT znl d 65 74 lo (.int y :: .int x :: st) h = zXf zT znl d 65 75 lo (.int (x + y) :: st) h := (zXq (op := oBin (fun x y => x + y) 75) zT_65 rfl).trans rfl
theorem q65_75 (d : Nat) (a0 : Value) (a1 : Value) (a2 : Value) (x : Int32) (l : zL) (st : List Value) (h : zH) (hz : zokv a1 = true) : zXf zT znl d 65 75 (a0 :: a1 :: a2 :: l) (.int x :: st) h = zXf zT znl d 65 76 (a0 :: a1 :: .int x :: l) st h := by
  refine (zXq (op := oIs 2 76) zT_65 rfl).trans ?_
  simp only [oIs, zok, hz, Bool.and_self, if_true, List.set_cons_succ, List.set_cons_zero, zB_go]
theorem q65_76 (d : Nat) (a0 : Value) (a1 : Value) (a2 : Value) (x : Int32) (l : zL) (st : List Value) (h : zH) (hz : zokv a2 = true) : zXf zT znl d 65 76 (a0 :: a1 :: a2 :: .int x :: l) st h = zXf zT znl d 65 79 (a0 :: a1 :: a2 :: .int (x + nI 1) :: l) st h := by
  refine (zXq (op := oInc 3 1 79) zT_65 rfl).trans ?_
  simp only [oInc, List.getElem?_cons_succ, List.getElem?_cons_zero, zok, hz, Bool.and_self, if_true, List.set_cons_succ, List.set_cons_zero, zB_go]
  try rfl
theorem q65_79 (d : Nat) (lo : zL) (st : List Value) (h : zH) : zXf zT znl d 65 79 lo st h = zXf zT znl d 65 6 lo st h := (zXq (op := oGoto 6) zT_65 rfl).trans rfl
theorem q65_82 (d : Nat) (a0 : Value) (x : Int32) (l : zL) (st : List Value) (h : zH) : zXf zT znl d 65 82 (a0 :: .int x :: l) st h = zXf zT znl d 65 83 (a0 :: .int x :: l) (.int x :: st) h := (zXq (op := oIl 1 83) zT_65 rfl).trans rfl
theorem q65_83 (d : Nat) (lo : zL) (x0 : Value) (h : zH) : zXf zT znl d 65 83 lo [x0] h = (zCf zT znl d 204 [x0] h).bind fun o => zXf zT znl d 65 86 lo (o.1.toList ++ []) o.2 := (zXq (op := oC1 98 204 86) zT_65 rfl).trans (zB_cl rfl rfl)
theorem q65_86 (d : Nat) (a0 : Value) (a1 : Value) (x : Int32) (l : zL) (st : List Value) (h : zH) : zXf zT znl d 65 86 (a0 :: a1 :: .int x :: l) st h = zXf zT znl d 65 87 (a0 :: a1 :: .int x :: l) (.int x :: st) h := (zXq (op := oIl 2 87) zT_65 rfl).trans rfl
theorem q65_87 (d : Nat) (lo : zL) (x0 s0 : Value) (h : zH) : zXf zT znl d 65 87 lo [x0, s0] h = (zCf zT znl d 204 [x0] h).bind fun o => zXf zT znl d 65 90 lo (o.1.toList ++ [s0]) o.2 := (zXq (op := oC1 98 204 90) zT_65 rfl).trans (zB_cl rfl rfl)
theorem q65_90 (d : Nat) (lo : zL) (x y : Int32) (st : List Value) (h : zH) : zXf zT znl d 65 90 lo (.int y :: .int x :: st) h = if x < y then zXf zT znl d 65 100 lo st h else zXf zT znl d 65 93 lo st h := (zXq (op := oCLt 100 93) zT_65 rfl).trans (zB_if _ _)
theorem q65_93 (d : Nat) (a0 : Value) (x : Int32) (l : zL) (st : List Value) (h : zH) : zXf zT znl d 65 93 (a0 :: .int x :: l) st h = zXf zT znl d 65 94 (a0 :: .int x :: l) (.int x :: st) h := (zXq (op := oIl 1 94) zT_65 rfl).trans rfl
theorem q65_94 (d : Nat) (lo : zL) (x0 : Value) (h : zH) : zXf zT znl d 65 94 lo [x0] h = (zCf zT znl d 2 [x0] h).bind fun o => zXf zT znl d 65 97 lo (o.1.toList ++ []) o.2 := (zXq (op := oC1 98 2 97) zT_65 rfl).trans (zB_cl rfl rfl)
theorem q65_97 (d : Nat) (lo : zL) (st : List Value) (h : zH) : zXf zT znl d 65 97 lo st h = zXf zT znl d 65 107 lo st h := (zXq (op := oGoto 107) zT_65 rfl).trans rfl
theorem q65_100 (d : Nat) (lo : zL) (st : List Value) (h : zH) : zXf zT znl d 65 100 lo st h = zXf zT znl d 65 102 lo (.int (nI 10) :: st) h := (zXq (op := oPush 10 102) zT_65 rfl).trans rfl
theorem q65_102 (d : Nat) (a0 : Value) (a1 : Value) (x : Int32) (l : zL) (st : List Value) (h : zH) : zXf zT znl d 65 102 (a0 :: a1 :: .int x :: l) st h = zXf zT znl d 65 103 (a0 :: a1 :: .int x :: l) (.int x :: st) h := (zXq (op := oIl 2 103) zT_65 rfl).trans rfl
theorem q65_103 (d : Nat) (lo : zL) (x0 s0 : Value) (h : zH) : zXf zT znl d 65 103 lo [x0, s0] h = (zCf zT znl d 2 [x0] h).bind fun o => zXf zT znl d 65 106 lo (o.1.toList ++ [s0]) o.2 := (zXq (op := oC1 98 2 106) zT_65 rfl).trans (zB_cl rfl rfl)
theorem q65_106 (d : Nat) (lo : zL) (x y : Int32) (st : List Value) (h : zH) : zXf zT znl d 65 106 lo (.int y :: .int x :: st) h = zXf zT znl d 65 107 lo (.int (x * y) :: st) h := (zXq (op := oBin (fun x y => x * y) 107) zT_65 rfl).trans rfl
theorem q65_107 (d : Nat) (a0 : Value) (a1 : Value) (a2 : Value) (a3 : Value) (x : Int32) (l : zL) (st : List Value) (h : zH) (hz : zokv a2 = true) : zXf zT znl d 65 107 (a0 :: a1 :: a2 :: a3 :: l) (.int x :: st) h = zXf zT znl d 65 108 (a0 :: a1 :: a2 :: .int x :: l) st h := by
  refine (zXq (op := oIs 3 108) zT_65 rfl).trans ?_
  simp only [oIs, zok, hz, Bool.and_self, if_true, List.set_cons_succ, List.set_cons_zero, zB_go]
theorem q65_108 (d : Nat) (x : Nat) (l : zL) (st : List Value) (h : zH) : zXf zT znl d 65 108 (.ref x :: l) st h = zXf zT znl d 65 109 (.ref x :: l) (.ref x :: st) h := (zXq (op := oAl 0 109) zT_65 rfl).trans rfl
theorem q65_109 (d : Nat) (x : Nat) (l : zL) (st : List Value) (h : zH) : zXf zT znl d 65 109 (.ref x :: l) st h = zXf zT znl d 65 110 (.ref x :: l) (.ref x :: st) h := (zXq (op := oAl 0 110) zT_65 rfl).trans rfl
theorem q65_110 (d : Nat) (lo : zL) (st : List Value) (h : zH) : zXf zT znl d 65 110 lo st h = zB zT znl d 65 (oGf 5 9 113 lo st h) := zXq (op := oGf 5 9 113) zT_65 rfl
theorem q65_113 (d : Nat) (a0 : Value) (a1 : Value) (a2 : Value) (x : Int32) (l : zL) (st : List Value) (h : zH) : zXf zT znl d 65 113 (a0 :: a1 :: a2 :: .int x :: l) st h = zXf zT znl d 65 114 (a0 :: a1 :: a2 :: .int x :: l) (.int x :: st) h := (zXq (op := oIl 3 114) zT_65 rfl).trans rfl
theorem q65_114 (d : Nat) (lo : zL) (x y : Int32) (st : List Value) (h : zH) : zXf zT znl d 65 114 lo (.int y :: .int x :: st) h = zXf zT znl d 65 115 lo (.int (x + y) :: st) h := (zXq (op := oBin (fun x y => x + y) 115) zT_65 rfl).trans rfl
theorem q65_115 (d : Nat) (lo : zL) (x0 x1 : Value) (h : zH) (hr : zrc 5 [x0, x1] = true) : zXf zT znl d 65 115 lo [x1, x0] h = (zCf zT znl d 54 [x0, x1] h).bind fun o => zXf zT znl d 65 118 lo (o.1.toList ++ []) o.2 := (zXq (op := oC2 5 54 118) zT_65 rfl).trans (zB_cl rfl hr)
theorem q65_118 (d : Nat) (lo : zL) (x : Int32) (st : List Value) (h : zH) : zXf zT znl d 65 118 lo (.int x :: st) h = if x = nI 0 then zXf zT znl d 65 121 lo st h else zXf zT znl d 65 131 lo st h := (zXq (op := oNe0 131 121) zT_65 rfl).trans (zB_if _ _)
theorem q65_121 (d : Nat) (x : Nat) (l : zL) (st : List Value) (h : zH) : zXf zT znl d 65 121 (.ref x :: l) st h = zXf zT znl d 65 122 (.ref x :: l) (.ref x :: st) h := (zXq (op := oAl 0 122) zT_65 rfl).trans rfl
theorem q65_122i (d : Nat) (lo : zL) (x : Int32) (st : List Value) (h : zH) : zXf zT znl d 65 122 lo (.int x :: st) h = zXf zT znl d 65 123 lo (.int x :: .int x :: st) h := (zXq (op := oDup 123) zT_65 rfl).trans rfl
theorem q65_122r (d : Nat) (lo : zL) (x : Nat) (st : List Value) (h : zH) : zXf zT znl d 65 122 lo (.ref x :: st) h = zXf zT znl d 65 123 lo (.ref x :: .ref x :: st) h := (zXq (op := oDup 123) zT_65 rfl).trans rfl
theorem q65_123 (d : Nat) (lo : zL) (st : List Value) (h : zH) : zXf zT znl d 65 123 lo st h = zB zT znl d 65 (oGf 5 9 126 lo st h) := zXq (op := oGf 5 9 126) zT_65 rfl
theorem q65_126 (d : Nat) (a0 : Value) (a1 : Value) (a2 : Value) (x : Int32) (l : zL) (st : List Value) (h : zH) : zXf zT znl d 65 126 (a0 :: a1 :: a2 :: .int x :: l) st h = zXf zT znl d 65 127 (a0 :: a1 :: a2 :: .int x :: l) (.int x :: st) h := (zXq (op := oIl 3 127) zT_65 rfl).trans rfl
theorem q65_127 (d : Nat) (lo : zL) (x y : Int32) (st : List Value) (h : zH) : zXf zT znl d 65 127 lo (.int y :: .int x :: st) h = zXf zT znl d 65 128 lo (.int (x + y) :: st) h := (zXq (op := oBin (fun x y => x + y) 128) zT_65 rfl).trans rfl
theorem q65_128 (d : Nat) (lo : zL) (st : List Value) (h : zH) : zXf zT znl d 65 128 lo st h = zB zT znl d 65 (oPf 5 9 131 lo st h) := zXq (op := oPf 5 9 131) zT_65 rfl
theorem q65_131 (d : Nat) (lo : zL) (h : zH) : zXf zT znl d 65 131 lo [] h = some (none, h) := (zXq (op := oRet) zT_65 rfl).trans rfl
theorem q66_0 (d : Nat) (a0 : Value) (x : Int32) (l : zL) (st : List Value) (h : zH) : zXf zT znl d 66 0 (a0 :: .int x :: l) st h = zXf zT znl d 66 1 (a0 :: .int x :: l) (.int x :: st) h := (zXq (op := oIl 1 1) zT_66 rfl).trans rfl
theorem q66_1 (d : Nat) (lo : zL) (x : Int32) (st : List Value) (h : zH) : zXf zT znl d 66 1 lo (.int x :: st) h = if x < nI 0 then zXf zT znl d 66 33 lo st h else zXf zT znl d 66 4 lo st h := (zXq (op := oLt0 33 4) zT_66 rfl).trans (zB_if _ _)
theorem q66_4 (d : Nat) (a0 : Value) (x : Int32) (l : zL) (st : List Value) (h : zH) : zXf zT znl d 66 4 (a0 :: .int x :: l) st h = zXf zT znl d 66 5 (a0 :: .int x :: l) (.int x :: st) h := (zXq (op := oIl 1 5) zT_66 rfl).trans rfl
theorem q66_5 (d : Nat) (x : Nat) (l : zL) (st : List Value) (h : zH) : zXf zT znl d 66 5 (.ref x :: l) st h = zXf zT znl d 66 6 (.ref x :: l) (.ref x :: st) h := (zXq (op := oAl 0 6) zT_66 rfl).trans rfl
theorem q66_6 (d : Nat) (lo : zL) (st : List Value) (h : zH) : zXf zT znl d 66 6 lo st h = zB zT znl d 66 (oGf 5 12 9 lo st h) := zXq (op := oGf 5 12 9) zT_66 rfl
theorem q66_9 (d : Nat) (lo : zL) (x y : Int32) (st : List Value) (h : zH) : zXf zT znl d 66 9 lo (.int y :: .int x :: st) h = if y ≤ x then zXf zT znl d 66 33 lo st h else zXf zT znl d 66 12 lo st h := (zXq (op := oCGe 33 12) zT_66 rfl).trans (zB_if _ _)
theorem q66_12 (d : Nat) (x : Nat) (l : zL) (st : List Value) (h : zH) : zXf zT znl d 66 12 (.ref x :: l) st h = zXf zT znl d 66 13 (.ref x :: l) (.ref x :: st) h := (zXq (op := oAl 0 13) zT_66 rfl).trans rfl
theorem q66_13 (d : Nat) (x : Nat) (l : zL) (st : List Value) (h : zH) : zXf zT znl d 66 13 (.ref x :: l) st h = zXf zT znl d 66 14 (.ref x :: l) (.ref x :: st) h := (zXq (op := oAl 0 14) zT_66 rfl).trans rfl
theorem q66_14 (d : Nat) (x : Nat) (l : zL) (st : List Value) (h : zH) : zXf zT znl d 66 14 (.ref x :: l) st h = zXf zT znl d 66 15 (.ref x :: l) (.ref x :: st) h := (zXq (op := oAl 0 15) zT_66 rfl).trans rfl
theorem q66_15 (d : Nat) (lo : zL) (st : List Value) (h : zH) : zXf zT znl d 66 15 lo st h = zB zT znl d 66 (oGf 5 9 18 lo st h) := zXq (op := oGf 5 9 18) zT_66 rfl
theorem q66_18 (d : Nat) (x : Nat) (l : zL) (st : List Value) (h : zH) : zXf zT znl d 66 18 (.ref x :: l) st h = zXf zT znl d 66 19 (.ref x :: l) (.ref x :: st) h := (zXq (op := oAl 0 19) zT_66 rfl).trans rfl
theorem q66_19 (d : Nat) (lo : zL) (st : List Value) (h : zH) : zXf zT znl d 66 19 lo st h = zB zT znl d 66 (oGf 5 2 22 lo st h) := zXq (op := oGf 5 2 22) zT_66 rfl
theorem q66_22 (d : Nat) (a0 : Value) (x : Int32) (l : zL) (st : List Value) (h : zH) : zXf zT znl d 66 22 (a0 :: .int x :: l) st h = zXf zT znl d 66 23 (a0 :: .int x :: l) (.int x :: st) h := (zXq (op := oIl 1 23) zT_66 rfl).trans rfl
theorem q66_23 (d : Nat) (lo : zL) (st : List Value) (h : zH) : zXf zT znl d 66 23 lo st h = zB zT znl d 66 (oAald 24 lo st h) := zXq (op := oAald 24) zT_66 rfl
theorem q66_24 (d : Nat) (lo : zL) (st : List Value) (h : zH) : zXf zT znl d 66 24 lo st h = zXf zT znl d 66 25 lo (.int (nI 2) :: st) h := (zXq (op := oPush 2 25) zT_66 rfl).trans rfl
theorem q66_25 (d : Nat) (lo : zL) (st : List Value) (h : zH) : zXf zT znl d 66 25 lo st h = zB zT znl d 66 (oIald 26 lo st h) := zXq (op := oIald 26) zT_66 rfl
theorem q66_26 (d : Nat) (lo : zL) (st : List Value) (h : zH) : zXf zT znl d 66 26 lo st h = zXf zT znl d 66 27 lo (.int (nI 0) :: st) h := (zXq (op := oPush 0 27) zT_66 rfl).trans rfl
theorem q66_27 (d : Nat) (lo : zL) (x0 x1 x2 x3 s0 : Value) (h : zH) (hr : zrc 5 [x0, x1, x2, x3] = true) : zXf zT znl d 66 27 lo [x3, x2, x1, x0, s0] h = (zCf zT znl d 55 [x0, x1, x2, x3] h).bind fun o => zXf zT znl d 66 30 lo (o.1.toList ++ [s0]) o.2 := (zXq (op := oC4 5 55 30) zT_66 rfl).trans (zB_cl rfl hr)
theorem q66_30 (d : Nat) (lo : zL) (st : List Value) (h : zH) : zXf zT znl d 66 30 lo st h = zB zT znl d 66 (oPf 5 9 33 lo st h) := zXq (op := oPf 5 9 33) zT_66 rfl
theorem q66_33 (d : Nat) (lo : zL) (h : zH) : zXf zT znl d 66 33 lo [] h = some (none, h) := (zXq (op := oRet) zT_66 rfl).trans rfl
theorem q67_0 (d : Nat) (x : Nat) (l : zL) (st : List Value) (h : zH) : zXf zT znl d 67 0 (.ref x :: l) st h = zXf zT znl d 67 1 (.ref x :: l) (.ref x :: st) h := (zXq (op := oAl 0 1) zT_67 rfl).trans rfl
theorem q67_1 (d : Nat) (lo : zL) (x0 : Value) (h : zH) (hr : zrc 5 [x0] = true) : zXf zT znl d 67 1 lo [x0] h = (zCf zT znl d 64 [x0] h).bind fun o => zXf zT znl d 67 4 lo (o.1.toList ++ []) o.2 := (zXq (op := oC1 5 64 4) zT_67 rfl).trans (zB_cl rfl hr)
theorem q67_4 (d : Nat) (lo : zL) (x : Int32) (st : List Value) (h : zH) : zXf zT znl d 67 4 lo (.int x :: st) h = if x = nI 0 then zXf zT znl d 67 7 lo st h else zXf zT znl d 67 8 lo st h := (zXq (op := oNe0 8 7) zT_67 rfl).trans (zB_if _ _)
theorem q67_7 (d : Nat) (lo : zL) (h : zH) : zXf zT znl d 67 7 lo [] h = some (none, h) := (zXq (op := oRet) zT_67 rfl).trans rfl
theorem q67_8 (d : Nat) (x : Nat) (l : zL) (st : List Value) (h : zH) : zXf zT znl d 67 8 (.ref x :: l) st h = zXf zT znl d 67 9 (.ref x :: l) (.ref x :: st) h := (zXq (op := oAl 0 9) zT_67 rfl).trans rfl
theorem q67_9 (d : Nat) (lo : zL) (st : List Value) (h : zH) : zXf zT znl d 67 9 lo st h = zB zT znl d 67 (oGf 5 1 12 lo st h) := zXq (op := oGf 5 1 12) zT_67 rfl
theorem q67_12 (d : Nat) (lo : zL) (st : List Value) (h : zH) : zXf zT znl d 67 12 lo st h = zXf zT znl d 67 13 lo (.int (nI 0) :: st) h := (zXq (op := oPush 0 13) zT_67 rfl).trans rfl
theorem q67_13 (d : Nat) (lo : zL) (st : List Value) (h : zH) : zXf zT znl d 67 13 lo st h = zB zT znl d 67 (oIald 14 lo st h) := zXq (op := oIald 14) zT_67 rfl
theorem q67_14 (d : Nat) (lo : zL) (st : List Value) (h : zH) : zXf zT znl d 67 14 lo st h = zXf zT znl d 67 15 lo (.int (nI 1) :: st) h := (zXq (op := oPush 1 15) zT_67 rfl).trans rfl
theorem q67_15 (d : Nat) (lo : zL) (x y : Int32) (st : List Value) (h : zH) : zXf zT znl d 67 15 lo (.int y :: .int x :: st) h = if x = y then zXf zT znl d 67 18 lo st h else zXf zT znl d 67 25 lo st h := (zXq (op := oCNe 25 18) zT_67 rfl).trans (zB_if _ _)
theorem q67_18 (d : Nat) (x : Nat) (l : zL) (st : List Value) (h : zH) : zXf zT znl d 67 18 (.ref x :: l) st h = zXf zT znl d 67 19 (.ref x :: l) (.ref x :: st) h := (zXq (op := oAl 0 19) zT_67 rfl).trans rfl
theorem q67_19 (d : Nat) (lo : zL) (x0 : Value) (h : zH) (hr : zrc 5 [x0] = true) : zXf zT znl d 67 19 lo [x0] h = (zCf zT znl d 65 [x0] h).bind fun o => zXf zT znl d 67 22 lo (o.1.toList ++ []) o.2 := (zXq (op := oC1 5 65 22) zT_67 rfl).trans (zB_cl rfl hr)
theorem q67_22 (d : Nat) (lo : zL) (st : List Value) (h : zH) : zXf zT znl d 67 22 lo st h = zXf zT znl d 67 33 lo st h := (zXq (op := oGoto 33) zT_67 rfl).trans rfl
theorem q67_25 (d : Nat) (x : Nat) (l : zL) (st : List Value) (h : zH) : zXf zT znl d 67 25 (.ref x :: l) st h = zXf zT znl d 67 26 (.ref x :: l) (.ref x :: st) h := (zXq (op := oAl 0 26) zT_67 rfl).trans rfl
theorem q67_26 (d : Nat) (x : Nat) (l : zL) (st : List Value) (h : zH) : zXf zT znl d 67 26 (.ref x :: l) st h = zXf zT znl d 67 27 (.ref x :: l) (.ref x :: st) h := (zXq (op := oAl 0 27) zT_67 rfl).trans rfl
theorem q67_27 (d : Nat) (lo : zL) (x0 s0 : Value) (h : zH) (hr : zrc 5 [x0] = true) : zXf zT znl d 67 27 lo [x0, s0] h = (zCf zT znl d 63 [x0] h).bind fun o => zXf zT znl d 67 30 lo (o.1.toList ++ [s0]) o.2 := (zXq (op := oC1 5 63 30) zT_67 rfl).trans (zB_cl rfl hr)
theorem q67_30 (d : Nat) (lo : zL) (x0 x1 : Value) (h : zH) (hr : zrc 5 [x0, x1] = true) : zXf zT znl d 67 30 lo [x1, x0] h = (zCf zT znl d 66 [x0, x1] h).bind fun o => zXf zT znl d 67 33 lo (o.1.toList ++ []) o.2 := (zXq (op := oC2 5 66 33) zT_67 rfl).trans (zB_cl rfl hr)
theorem q67_33 (d : Nat) (lo : zL) (h : zH) : zXf zT znl d 67 33 lo [] h = some (none, h) := (zXq (op := oRet) zT_67 rfl).trans rfl
theorem q68_0 (d : Nat) (lo : zL) (st : List Value) (h : zH) : zXf zT znl d 68 0 lo st h = zXf zT znl d 68 1 lo (.int (nI 0) :: st) h := (zXq (op := oPush 0 1) zT_68 rfl).trans rfl
theorem q68_1 (d : Nat) (a0 : Value) (a1 : Value) (x : Int32) (l : zL) (st : List Value) (h : zH) (hz : zokv a0 = true) : zXf zT znl d 68 1 (a0 :: a1 :: l) (.int x :: st) h = zXf zT znl d 68 2 (a0 :: .int x :: l) st h := by
  refine (zXq (op := oIs 1 2) zT_68 rfl).trans ?_
  simp only [oIs, zok, hz, Bool.and_self, if_true, List.set_cons_succ, List.set_cons_zero, zB_go]
theorem q68_2 (d : Nat) (a0 : Value) (x : Int32) (l : zL) (st : List Value) (h : zH) : zXf zT znl d 68 2 (a0 :: .int x :: l) st h = zXf zT znl d 68 3 (a0 :: .int x :: l) (.int x :: st) h := (zXq (op := oIl 1 3) zT_68 rfl).trans rfl
theorem q68_3 (d : Nat) (x : Nat) (l : zL) (st : List Value) (h : zH) : zXf zT znl d 68 3 (.ref x :: l) st h = zXf zT znl d 68 4 (.ref x :: l) (.ref x :: st) h := (zXq (op := oAl 0 4) zT_68 rfl).trans rfl
theorem q68_4 (d : Nat) (lo : zL) (st : List Value) (h : zH) : zXf zT znl d 68 4 lo st h = zB zT znl d 68 (oGf 5 12 7 lo st h) := zXq (op := oGf 5 12 7) zT_68 rfl
theorem q68_7 (d : Nat) (lo : zL) (x y : Int32) (st : List Value) (h : zH) : zXf zT znl d 68 7 lo (.int y :: .int x :: st) h = if y ≤ x then zXf zT znl d 68 81 lo st h else zXf zT znl d 68 10 lo st h := (zXq (op := oCGe 81 10) zT_68 rfl).trans (zB_if _ _)
theorem q68_10 (d : Nat) (x : Nat) (l : zL) (st : List Value) (h : zH) : zXf zT znl d 68 10 (.ref x :: l) st h = zXf zT znl d 68 11 (.ref x :: l) (.ref x :: st) h := (zXq (op := oAl 0 11) zT_68 rfl).trans rfl
theorem q68_11 (d : Nat) (lo : zL) (st : List Value) (h : zH) : zXf zT znl d 68 11 lo st h = zB zT znl d 68 (oGf 5 6 14 lo st h) := zXq (op := oGf 5 6 14) zT_68 rfl
theorem q68_14 (d : Nat) (a0 : Value) (x : Int32) (l : zL) (st : List Value) (h : zH) : zXf zT znl d 68 14 (a0 :: .int x :: l) st h = zXf zT znl d 68 15 (a0 :: .int x :: l) (.int x :: st) h := (zXq (op := oIl 1 15) zT_68 rfl).trans rfl
theorem q68_15 (d : Nat) (lo : zL) (st : List Value) (h : zH) : zXf zT znl d 68 15 lo st h = zB zT znl d 68 (oIald 16 lo st h) := zXq (op := oIald 16) zT_68 rfl
theorem q68_16 (d : Nat) (lo : zL) (x : Int32) (st : List Value) (h : zH) : zXf zT znl d 68 16 lo (.int x :: st) h = if x ≤ nI 0 then zXf zT znl d 68 75 lo st h else zXf zT znl d 68 19 lo st h := (zXq (op := oLe0 75 19) zT_68 rfl).trans (zB_if _ _)
theorem q68_19 (d : Nat) (x : Nat) (l : zL) (st : List Value) (h : zH) : zXf zT znl d 68 19 (.ref x :: l) st h = zXf zT znl d 68 20 (.ref x :: l) (.ref x :: st) h := (zXq (op := oAl 0 20) zT_68 rfl).trans rfl
theorem q68_20 (d : Nat) (lo : zL) (st : List Value) (h : zH) : zXf zT znl d 68 20 lo st h = zB zT znl d 68 (oGf 5 2 23 lo st h) := zXq (op := oGf 5 2 23) zT_68 rfl
theorem q68_23 (d : Nat) (a0 : Value) (x : Int32) (l : zL) (st : List Value) (h : zH) : zXf zT znl d 68 23 (a0 :: .int x :: l) st h = zXf zT znl d 68 24 (a0 :: .int x :: l) (.int x :: st) h := (zXq (op := oIl 1 24) zT_68 rfl).trans rfl
theorem q68_24 (d : Nat) (lo : zL) (st : List Value) (h : zH) : zXf zT znl d 68 24 lo st h = zB zT znl d 68 (oAald 25 lo st h) := zXq (op := oAald 25) zT_68 rfl
theorem q68_25 (d : Nat) (a0 : Value) (a1 : Value) (a2 : Value) (x : Nat) (l : zL) (st : List Value) (h : zH) (hz : zokv a1 = true) : zXf zT znl d 68 25 (a0 :: a1 :: a2 :: l) (.ref x :: st) h = zXf zT znl d 68 26 (a0 :: a1 :: .ref x :: l) st h := by
  refine (zXq (op := oAs 2 26) zT_68 rfl).trans ?_
  simp only [oAs, zok, hz, Bool.and_self, if_true, List.set_cons_succ, List.set_cons_zero, zB_go]
theorem q68_26 (d : Nat) (x : Nat) (l : zL) (st : List Value) (h : zH) : zXf zT znl d 68 26 (.ref x :: l) st h = zXf zT znl d 68 27 (.ref x :: l) (.ref x :: st) h := (zXq (op := oAl 0 27) zT_68 rfl).trans rfl
theorem q68_27 (d : Nat) (a0 : Value) (a1 : Value) (x : Nat) (l : zL) (st : List Value) (h : zH) : zXf zT znl d 68 27 (a0 :: a1 :: .ref x :: l) st h = zXf zT znl d 68 28 (a0 :: a1 :: .ref x :: l) (.ref x :: st) h := (zXq (op := oAl 2 28) zT_68 rfl).trans rfl
theorem q68_28 (d : Nat) (x : Nat) (l : zL) (st : List Value) (h : zH) : zXf zT znl d 68 28 (.ref x :: l) st h = zXf zT znl d 68 29 (.ref x :: l) (.ref x :: st) h := (zXq (op := oAl 0 29) zT_68 rfl).trans rfl
theorem q68_29 (d : Nat) (lo : zL) (st : List Value) (h : zH) : zXf zT znl d 68 29 lo st h = zB zT znl d 68 (oGf 5 6 32 lo st h) := zXq (op := oGf 5 6 32) zT_68 rfl
theorem q68_32 (d : Nat) (a0 : Value) (x : Int32) (l : zL) (st : List Value) (h : zH) : zXf zT znl d 68 32 (a0 :: .int x :: l) st h = zXf zT znl d 68 33 (a0 :: .int x :: l) (.int x :: st) h := (zXq (op := oIl 1 33) zT_68 rfl).trans rfl
theorem q68_33 (d : Nat) (lo : zL) (st : List Value) (h : zH) : zXf zT znl d 68 33 lo st h = zB zT znl d 68 (oIald 34 lo st h) := zXq (op := oIald 34) zT_68 rfl
theorem q68_34 (d : Nat) (lo : zL) (x0 x1 x2 : Value) (h : zH) (hr : zrc 5 [x0, x1, x2] = true) : zXf zT znl d 68 34 lo [x2, x1, x0] h = (zCf zT znl d 57 [x0, x1, x2] h).bind fun o => zXf zT znl d 68 37 lo (o.1.toList ++ []) o.2 := (zXq (op := oC3 5 57 37) zT_68 rfl).trans (zB_cl rfl hr)
theorem q68_37 (d : Nat) (a0 : Value) (a1 : Value) (a2 : Value) (a3 : Value) (x : Int32) (l : zL) (st : List Value) (h : zH) (hz : zokv a2 = true) : zXf zT znl d 68 37 (a0 :: a1 :: a2 :: a3 :: l) (.int x :: st) h = zXf zT znl d 68 38 (a0 :: a1 :: a2 :: .int x :: l) st h := by
  refine (zXq (op := oIs 3 38) zT_68 rfl).trans ?_
  simp only [oIs, zok, hz, Bool.and_self, if_true, List.set_cons_succ, List.set_cons_zero, zB_go]
theorem q68_38 (d : Nat) (a0 : Value) (a1 : Value) (x : Nat) (l : zL) (st : List Value) (h : zH) : zXf zT znl d 68 38 (a0 :: a1 :: .ref x :: l) st h = zXf zT znl d 68 39 (a0 :: a1 :: .ref x :: l) (.ref x :: st) h := (zXq (op := oAl 2 39) zT_68 rfl).trans rfl
theorem q68_39 (d : Nat) (lo : zL) (st : List Value) (h : zH) : zXf zT znl d 68 39 lo st h = zXf zT znl d 68 40 lo (.int (nI 4) :: st) h := (zXq (op := oPush 4 40) zT_68 rfl).trans rfl
theorem q68_40 (d : Nat) (lo : zL) (st : List Value) (h : zH) : zXf zT znl d 68 40 lo st h = zXf zT znl d 68 42 lo (.int (nI 99) :: st) h := (zXq (op := oPush 99 42) zT_68 rfl).trans rfl
theorem q68_42 (d : Nat) (a0 : Value) (a1 : Value) (x : Nat) (l : zL) (st : List Value) (h : zH) : zXf zT znl d 68 42 (a0 :: a1 :: .ref x :: l) st h = zXf zT znl d 68 43 (a0 :: a1 :: .ref x :: l) (.ref x :: st) h := (zXq (op := oAl 2 43) zT_68 rfl).trans rfl
theorem q68_43 (d : Nat) (lo : zL) (st : List Value) (h : zH) : zXf zT znl d 68 43 lo st h = zXf zT znl d 68 44 lo (.int (nI 4) :: st) h := (zXq (op := oPush 4 44) zT_68 rfl).trans rfl
theorem q68_44 (d : Nat) (lo : zL) (st : List Value) (h : zH) : zXf zT znl d 68 44 lo st h = zB zT znl d 68 (oIald 45 lo st h) := zXq (op := oIald 45) zT_68 rfl
theorem q68_45 (d : Nat) (x : Nat) (l : zL) (st : List Value) (h : zH) : zXf zT znl d 68 45 (.ref x :: l) st h = zXf zT znl d 68 46 (.ref x :: l) (.ref x :: st) h := (zXq (op := oAl 0 46) zT_68 rfl).trans rfl
theorem q68_46 (d : Nat) (lo : zL) (st : List Value) (h : zH) : zXf zT znl d 68 46 lo st h = zB zT znl d 68 (oGf 5 6 49 lo st h) := zXq (op := oGf 5 6 49) zT_68 rfl
theorem q68_49 (d : Nat) (a0 : Value) (x : Int32) (l : zL) (st : List Value) (h : zH) : zXf zT znl d 68 49 (a0 :: .int x :: l) st h = zXf zT znl d 68 50 (a0 :: .int x :: l) (.int x :: st) h := (zXq (op := oIl 1 50) zT_68 rfl).trans rfl
theorem q68_50 (d : Nat) (lo : zL) (st : List Value) (h : zH) : zXf zT znl d 68 50 lo st h = zB zT znl d 68 (oIald 51 lo st h) := zXq (op := oIald 51) zT_68 rfl
theorem q68_51 (d : Nat) (lo : zL) (st : List Value) (h : zH) : zXf zT znl d 68 51 lo st h = zXf zT znl d 68 52 lo (.int (nI 2) :: st) h := (zXq (op := oPush 2 52) zT_68 rfl).trans rfl
theorem q68_52 (d : Nat) (lo : zL) (x y : Int32) (st : List Value) (h : zH) (hy : ¬ y = 0) : zXf zT znl d 68 52 lo (.int y :: .int x :: st) h = zXf zT znl d 68 53 lo (.int (x / y) :: st) h := by
  refine (zXq (op := oDiv 53) zT_68 rfl).trans ?_
  simp only [oDiv, if_neg hy, zB_go]
theorem q68_53 (d : Nat) (lo : zL) (x y : Int32) (st : List Value) (h : zH) : zXf zT znl d 68 53 lo (.int y :: .int x :: st) h = zXf zT znl d 68 54 lo (.int (x + y) :: st) h := (zXq (op := oBin (fun x y => x + y) 54) zT_68 rfl).trans rfl
theorem q68_54 (d : Nat) (lo : zL) (x0 x1 s0 s1 : Value) (h : zH) : zXf zT znl d 68 54 lo [x1, x0, s0, s1] h = (zCf zT znl d 206 [x0, x1] h).bind fun o => zXf zT znl d 68 57 lo (o.1.toList ++ [s0, s1]) o.2 := (zXq (op := oC2 98 206 57) zT_68 rfl).trans (zB_cl rfl rfl)
theorem q68_57 (d : Nat) (lo : zL) (st : List Value) (h : zH) : zXf zT znl d 68 57 lo st h = zB zT znl d 68 (oIast 58 lo st h) := zXq (op := oIast 58) zT_68 rfl
theorem q68_58 (d : Nat) (a0 : Value) (a1 : Value) (x : Nat) (l : zL) (st : List Value) (h : zH) : zXf zT znl d 68 58 (a0 :: a1 :: .ref x :: l) st h = zXf zT znl d 68 59 (a0 :: a1 :: .ref x :: l) (.ref x :: st) h := (zXq (op := oAl 2 59) zT_68 rfl).trans rfl
theorem q68_59 (d : Nat) (lo : zL) (st : List Value) (h : zH) : zXf zT znl d 68 59 lo st h = zXf zT znl d 68 61 lo (.int (nI 6) :: st) h := (zXq (op := oPush 6 61) zT_68 rfl).trans rfl
theorem q68_61 (d : Nat) (a0 : Value) (a1 : Value) (x : Nat) (l : zL) (st : List Value) (h : zH) : zXf zT znl d 68 61 (a0 :: a1 :: .ref x :: l) st h = zXf zT znl d 68 62 (a0 :: a1 :: .ref x :: l) (.ref x :: st) h := (zXq (op := oAl 2 62) zT_68 rfl).trans rfl
theorem q68_62 (d : Nat) (lo : zL) (st : List Value) (h : zH) : zXf zT znl d 68 62 lo st h = zXf zT znl d 68 64 lo (.int (nI 6) :: st) h := (zXq (op := oPush 6 64) zT_68 rfl).trans rfl
theorem q68_64 (d : Nat) (lo : zL) (st : List Value) (h : zH) : zXf zT znl d 68 64 lo st h = zB zT znl d 68 (oIald 65 lo st h) := zXq (op := oIald 65) zT_68 rfl
theorem q68_65 (d : Nat) (a0 : Value) (a1 : Value) (a2 : Value) (x : Int32) (l : zL) (st : List Value) (h : zH) : zXf zT znl d 68 65 (a0 :: a1 :: a2 :: .int x :: l) st h = zXf zT znl d 68 66 (a0 :: a1 :: a2 :: .int x :: l) (.int x :: st) h := (zXq (op := oIl 3 66) zT_68 rfl).trans rfl
theorem q68_66 (d : Nat) (lo : zL) (x y : Int32) (st : List Value) (h : zH) : zXf zT znl d 68 66 lo (.int y :: .int x :: st) h = zXf zT znl d 68 67 lo (.int (x - y) :: st) h := (zXq (op := oBin (fun x y => x - y) 67) zT_68 rfl).trans rfl
theorem q68_67 (d : Nat) (lo : zL) (st : List Value) (h : zH) : zXf zT znl d 68 67 lo st h = zXf zT znl d 68 69 lo (.int ((-999999)) :: st) h := (zXq (op := oPush (-999999) 69) zT_68 rfl).trans rfl
theorem q68_69 (d : Nat) (lo : zL) (st : List Value) (h : zH) : zXf zT znl d 68 69 lo st h = zXf zT znl d 68 71 lo (.int (nI 999999) :: st) h := (zXq (op := oPush 999999 71) zT_68 rfl).trans rfl
theorem q68_71 (d : Nat) (lo : zL) (x0 x1 x2 s0 s1 : Value) (h : zH) : zXf zT znl d 68 71 lo [x2, x1, x0, s0, s1] h = (zCf zT znl d 4 [x0, x1, x2] h).bind fun o => zXf zT znl d 68 74 lo (o.1.toList ++ [s0, s1]) o.2 := (zXq (op := oC3 98 4 74) zT_68 rfl).trans (zB_cl rfl rfl)
theorem q68_74 (d : Nat) (lo : zL) (st : List Value) (h : zH) : zXf zT znl d 68 74 lo st h = zB zT znl d 68 (oIast 75 lo st h) := zXq (op := oIast 75) zT_68 rfl
theorem q68_75 (d : Nat) (a0 : Value) (x : Int32) (l : zL) (st : List Value) (h : zH) (hz : zokv a0 = true) : zXf zT znl d 68 75 (a0 :: .int x :: l) st h = zXf zT znl d 68 78 (a0 :: .int (x + nI 1) :: l) st h := by
  refine (zXq (op := oInc 1 1 78) zT_68 rfl).trans ?_
  simp only [oInc, List.getElem?_cons_succ, List.getElem?_cons_zero, zok, hz, Bool.and_self, if_true, List.set_cons_succ, List.set_cons_zero, zB_go]
  try rfl
theorem q68_78 (d : Nat) (lo : zL) (st : List Value) (h : zH) : zXf zT znl d 68 78 lo st h = zXf zT znl d 68 2 lo st h := (zXq (op := oGoto 2) zT_68 rfl).trans rfl
theorem q68_81 (d : Nat) (lo : zL) (h : zH) : zXf zT znl d 68 81 lo [] h = some (none, h) := (zXq (op := oRet) zT_68 rfl).trans rfl
theorem q69_0 (d : Nat) (lo : zL) (st : List Value) (h : zH) : zXf zT znl d 69 0 lo st h = zXf zT znl d 69 1 lo (.int (nI 0) :: st) h := (zXq (op := oPush 0 1) zT_69 rfl).trans rfl
theorem q69_1 (d : Nat) (a0 : Value) (a1 : Value) (x : Int32) (l : zL) (st : List Value) (h : zH) (hz : zokv a0 = true) : zXf zT znl d 69 1 (a0 :: a1 :: l) (.int x :: st) h = zXf zT znl d 69 2 (a0 :: .int x :: l) st h := by
  refine (zXq (op := oIs 1 2) zT_69 rfl).trans ?_
  simp only [oIs, zok, hz, Bool.and_self, if_true, List.set_cons_succ, List.set_cons_zero, zB_go]
theorem q69_2 (d : Nat) (a0 : Value) (x : Int32) (l : zL) (st : List Value) (h : zH) : zXf zT znl d 69 2 (a0 :: .int x :: l) st h = zXf zT znl d 69 3 (a0 :: .int x :: l) (.int x :: st) h := (zXq (op := oIl 1 3) zT_69 rfl).trans rfl
theorem q69_3 (d : Nat) (x : Nat) (l : zL) (st : List Value) (h : zH) : zXf zT znl d 69 3 (.ref x :: l) st h = zXf zT znl d 69 4 (.ref x :: l) (.ref x :: st) h := (zXq (op := oAl 0 4) zT_69 rfl).trans rfl
theorem q69_4 (d : Nat) (lo : zL) (st : List Value) (h : zH) : zXf zT znl d 69 4 lo st h = zB zT znl d 69 (oGf 5 12 7 lo st h) := zXq (op := oGf 5 12 7) zT_69 rfl
theorem q69_7 (d : Nat) (lo : zL) (x y : Int32) (st : List Value) (h : zH) : zXf zT znl d 69 7 lo (.int y :: .int x :: st) h = if y ≤ x then zXf zT znl d 69 66 lo st h else zXf zT znl d 69 10 lo st h := (zXq (op := oCGe 66 10) zT_69 rfl).trans (zB_if _ _)
theorem q69_10 (d : Nat) (x : Nat) (l : zL) (st : List Value) (h : zH) : zXf zT znl d 69 10 (.ref x :: l) st h = zXf zT znl d 69 11 (.ref x :: l) (.ref x :: st) h := (zXq (op := oAl 0 11) zT_69 rfl).trans rfl
theorem q69_11 (d : Nat) (lo : zL) (st : List Value) (h : zH) : zXf zT znl d 69 11 lo st h = zB zT znl d 69 (oGf 5 2 14 lo st h) := zXq (op := oGf 5 2 14) zT_69 rfl
theorem q69_14 (d : Nat) (a0 : Value) (x : Int32) (l : zL) (st : List Value) (h : zH) : zXf zT znl d 69 14 (a0 :: .int x :: l) st h = zXf zT znl d 69 15 (a0 :: .int x :: l) (.int x :: st) h := (zXq (op := oIl 1 15) zT_69 rfl).trans rfl
theorem q69_15 (d : Nat) (lo : zL) (st : List Value) (h : zH) : zXf zT znl d 69 15 lo st h = zB zT znl d 69 (oAald 16 lo st h) := zXq (op := oAald 16) zT_69 rfl
theorem q69_16 (d : Nat) (a0 : Value) (a1 : Value) (a2 : Value) (x : Nat) (l : zL) (st : List Value) (h : zH) (hz : zokv a1 = true) : zXf zT znl d 69 16 (a0 :: a1 :: a2 :: l) (.ref x :: st) h = zXf zT znl d 69 17 (a0 :: a1 :: .ref x :: l) st h := by
  refine (zXq (op := oAs 2 17) zT_69 rfl).trans ?_
  simp only [oAs, zok, hz, Bool.and_self, if_true, List.set_cons_succ, List.set_cons_zero, zB_go]
theorem q69_17 (d : Nat) (a0 : Value) (a1 : Value) (x : Nat) (l : zL) (st : List Value) (h : zH) : zXf zT znl d 69 17 (a0 :: a1 :: .ref x :: l) st h = zXf zT znl d 69 18 (a0 :: a1 :: .ref x :: l) (.ref x :: st) h := (zXq (op := oAl 2 18) zT_69 rfl).trans rfl
theorem q69_18 (d : Nat) (lo : zL) (st : List Value) (h : zH) : zXf zT znl d 69 18 lo st h = zXf zT znl d 69 20 lo (.int (nI 6) :: st) h := (zXq (op := oPush 6 20) zT_69 rfl).trans rfl
theorem q69_20 (d : Nat) (lo : zL) (st : List Value) (h : zH) : zXf zT znl d 69 20 lo st h = zB zT znl d 69 (oIald 21 lo st h) := zXq (op := oIald 21) zT_69 rfl
theorem q69_21 (d : Nat) (a0 : Value) (a1 : Value) (x : Nat) (l : zL) (st : List Value) (h : zH) : zXf zT znl d 69 21 (a0 :: a1 :: .ref x :: l) st h = zXf zT znl d 69 22 (a0 :: a1 :: .ref x :: l) (.ref x :: st) h := (zXq (op := oAl 2 22) zT_69 rfl).trans rfl
theorem q69_22 (d : Nat) (x : Nat) (l : zL) (st : List Value) (h : zH) : zXf zT znl d 69 22 (.ref x :: l) st h = zXf zT znl d 69 23 (.ref x :: l) (.ref x :: st) h := (zXq (op := oAl 0 23) zT_69 rfl).trans rfl
theorem q69_23 (d : Nat) (lo : zL) (st : List Value) (h : zH) : zXf zT znl d 69 23 lo st h = zB zT znl d 69 (oGf 5 9 26 lo st h) := zXq (op := oGf 5 9 26) zT_69 rfl
theorem q69_26 (d : Nat) (lo : zL) (x0 x1 s0 : Value) (h : zH) : zXf zT znl d 69 26 lo [x1, x0, s0] h = (zCf zT znl d 3 [x0, x1] h).bind fun o => zXf zT znl d 69 29 lo (o.1.toList ++ [s0]) o.2 := (zXq (op := oC2 98 3 29) zT_69 rfl).trans (zB_cl rfl rfl)
theorem q69_29 (d : Nat) (lo : zL) (x y : Int32) (st : List Value) (h : zH) : zXf zT znl d 69 29 lo (.int y :: .int x :: st) h = zXf zT znl d 69 30 lo (.int (x + y) :: st) h := (zXq (op := oBin (fun x y => x + y) 30) zT_69 rfl).trans rfl
theorem q69_30 (d : Nat) (a0 : Value) (a1 : Value) (a2 : Value) (a3 : Value) (x : Int32) (l : zL) (st : List Value) (h : zH) (hz : zokv a2 = true) : zXf zT znl d 69 30 (a0 :: a1 :: a2 :: a3 :: l) (.int x :: st) h = zXf zT znl d 69 31 (a0 :: a1 :: a2 :: .int x :: l) st h := by
  refine (zXq (op := oIs 3 31) zT_69 rfl).trans ?_
  simp only [oIs, zok, hz, Bool.and_self, if_true, List.set_cons_succ, List.set_cons_zero, zB_go]
theorem q69_31 (d : Nat) (a0 : Value) (a1 : Value) (x : Nat) (l : zL) (st : List Value) (h : zH) : zXf zT znl d 69 31 (a0 :: a1 :: .ref x :: l) st h = zXf zT znl d 69 32 (a0 :: a1 :: .ref x :: l) (.ref x :: st) h := (zXq (op := oAl 2 32) zT_69 rfl).trans rfl
theorem q69_32 (d : Nat) (lo : zL) (st : List Value) (h : zH) : zXf zT znl d 69 32 lo st h = zXf zT znl d 69 34 lo (.int (nI 6) :: st) h := (zXq (op := oPush 6 34) zT_69 rfl).trans rfl
theorem q69_34 (d : Nat) (a0 : Value) (a1 : Value) (a2 : Value) (x : Int32) (l : zL) (st : List Value) (h : zH) : zXf zT znl d 69 34 (a0 :: a1 :: a2 :: .int x :: l) st h = zXf zT znl d 69 35 (a0 :: a1 :: a2 :: .int x :: l) (.int x :: st) h := (zXq (op := oIl 3 35) zT_69 rfl).trans rfl
theorem q69_35 (d : Nat) (lo : zL) (st : List Value) (h : zH) : zXf zT znl d 69 35 lo st h = zXf zT znl d 69 37 lo (.int ((-999999)) :: st) h := (zXq (op := oPush (-999999) 37) zT_69 rfl).trans rfl
theorem q69_37 (d : Nat) (lo : zL) (st : List Value) (h : zH) : zXf zT znl d 69 37 lo st h = zXf zT znl d 69 39 lo (.int (nI 999999) :: st) h := (zXq (op := oPush 999999 39) zT_69 rfl).trans rfl
theorem q69_39 (d : Nat) (lo : zL) (x0 x1 x2 s0 s1 : Value) (h : zH) : zXf zT znl d 69 39 lo [x2, x1, x0, s0, s1] h = (zCf zT znl d 4 [x0, x1, x2] h).bind fun o => zXf zT znl d 69 42 lo (o.1.toList ++ [s0, s1]) o.2 := (zXq (op := oC3 98 4 42) zT_69 rfl).trans (zB_cl rfl rfl)
theorem q69_42 (d : Nat) (lo : zL) (st : List Value) (h : zH) : zXf zT znl d 69 42 lo st h = zB zT znl d 69 (oIast 43 lo st h) := zXq (op := oIast 43) zT_69 rfl
theorem q69_43 (d : Nat) (a0 : Value) (a1 : Value) (x : Nat) (l : zL) (st : List Value) (h : zH) : zXf zT znl d 69 43 (a0 :: a1 :: .ref x :: l) st h = zXf zT znl d 69 44 (a0 :: a1 :: .ref x :: l) (.ref x :: st) h := (zXq (op := oAl 2 44) zT_69 rfl).trans rfl
theorem q69_44 (d : Nat) (lo : zL) (st : List Value) (h : zH) : zXf zT znl d 69 44 lo st h = zXf zT znl d 69 45 lo (.int (nI 4) :: st) h := (zXq (op := oPush 4 45) zT_69 rfl).trans rfl
theorem q69_45 (d : Nat) (lo : zL) (st : List Value) (h : zH) : zXf zT znl d 69 45 lo st h = zXf zT znl d 69 46 lo (.int (nI 0) :: st) h := (zXq (op := oPush 0 46) zT_69 rfl).trans rfl
theorem q69_46 (d : Nat) (a0 : Value) (a1 : Value) (x : Nat) (l : zL) (st : List Value) (h : zH) : zXf zT znl d 69 46 (a0 :: a1 :: .ref x :: l) st h = zXf zT znl d 69 47 (a0 :: a1 :: .ref x :: l) (.ref x :: st) h := (zXq (op := oAl 2 47) zT_69 rfl).trans rfl
theorem q69_47 (d : Nat) (lo : zL) (st : List Value) (h : zH) : zXf zT znl d 69 47 lo st h = zXf zT znl d 69 48 lo (.int (nI 4) :: st) h := (zXq (op := oPush 4 48) zT_69 rfl).trans rfl
theorem q69_48 (d : Nat) (lo : zL) (st : List Value) (h : zH) : zXf zT znl d 69 48 lo st h = zB zT znl d 69 (oIald 49 lo st h) := zXq (op := oIald 49) zT_69 rfl
theorem q69_49 (d : Nat) (x : Nat) (l : zL) (st : List Value) (h : zH) : zXf zT znl d 69 49 (.ref x :: l) st h = zXf zT znl d 69 50 (.ref x :: l) (.ref x :: st) h := (zXq (op := oAl 0 50) zT_69 rfl).trans rfl
theorem q69_50 (d : Nat) (lo : zL) (st : List Value) (h : zH) : zXf zT znl d 69 50 lo st h = zB zT znl d 69 (oGf 5 1 53 lo st h) := zXq (op := oGf 5 1 53) zT_69 rfl
theorem q69_53 (d : Nat) (lo : zL) (st : List Value) (h : zH) : zXf zT znl d 69 53 lo st h = zXf zT znl d 69 54 lo (.int (nI 1) :: st) h := (zXq (op := oPush 1 54) zT_69 rfl).trans rfl
theorem q69_54 (d : Nat) (lo : zL) (st : List Value) (h : zH) : zXf zT znl d 69 54 lo st h = zB zT znl d 69 (oIald 55 lo st h) := zXq (op := oIald 55) zT_69 rfl
theorem q69_55 (d : Nat) (lo : zL) (x y : Int32) (st : List Value) (h : zH) : zXf zT znl d 69 55 lo (.int y :: .int x :: st) h = zXf zT znl d 69 56 lo (.int (x - y) :: st) h := (zXq (op := oBin (fun x y => x - y) 56) zT_69 rfl).trans rfl
theorem q69_56 (d : Nat) (lo : zL) (x0 x1 s0 s1 : Value) (h : zH) : zXf zT znl d 69 56 lo [x1, x0, s0, s1] h = (zCf zT znl d 205 [x0, x1] h).bind fun o => zXf zT znl d 69 59 lo (o.1.toList ++ [s0, s1]) o.2 := (zXq (op := oC2 98 205 59) zT_69 rfl).trans (zB_cl rfl rfl)
theorem q69_59 (d : Nat) (lo : zL) (st : List Value) (h : zH) : zXf zT znl d 69 59 lo st h = zB zT znl d 69 (oIast 60 lo st h) := zXq (op := oIast 60) zT_69 rfl
theorem q69_60 (d : Nat) (a0 : Value) (x : Int32) (l : zL) (st : List Value) (h : zH) (hz : zokv a0 = true) : zXf zT znl d 69 60 (a0 :: .int x :: l) st h = zXf zT znl d 69 63 (a0 :: .int (x + nI 1) :: l) st h := by
  refine (zXq (op := oInc 1 1 63) zT_69 rfl).trans ?_
  simp only [oInc, List.getElem?_cons_succ, List.getElem?_cons_zero, zok, hz, Bool.and_self, if_true, List.set_cons_succ, List.set_cons_zero, zB_go]
  try rfl
theorem q69_63 (d : Nat) (lo : zL) (st : List Value) (h : zH) : zXf zT znl d 69 63 lo st h = zXf zT znl d 69 2 lo st h := (zXq (op := oGoto 2) zT_69 rfl).trans rfl
theorem q69_66 (d : Nat) (x : Nat) (l : zL) (st : List Value) (h : zH) : zXf zT znl d 69 66 (.ref x :: l) st h = zXf zT znl d 69 67 (.ref x :: l) (.ref x :: st) h := (zXq (op := oAl 0 67) zT_69 rfl).trans rfl
theorem q69_67i (d : Nat) (lo : zL) (x : Int32) (st : List Value) (h : zH) : zXf zT znl d 69 67 lo (.int x :: st) h = zXf zT znl d 69 68 lo (.int x :: .int x :: st) h := (zXq (op := oDup 68) zT_69 rfl).trans rfl
theorem q69_67r (d : Nat) (lo : zL) (x : Nat) (st : List Value) (h : zH) : zXf zT znl d 69 67 lo (.ref x :: st) h = zXf zT znl d 69 68 lo (.ref x :: .ref x :: st) h := (zXq (op := oDup 68) zT_69 rfl).trans rfl
theorem q69_68 (d : Nat) (lo : zL) (st : List Value) (h : zH) : zXf zT znl d 69 68 lo st h = zB zT znl d 69 (oGf 5 10 71 lo st h) := zXq (op := oGf 5 10 71) zT_69 rfl
theorem q69_71 (d : Nat) (lo : zL) (st : List Value) (h : zH) : zXf zT znl d 69 71 lo st h = zXf zT znl d 69 72 lo (.int (nI 1) :: st) h := (zXq (op := oPush 1 72) zT_69 rfl).trans rfl
theorem q69_72 (d : Nat) (lo : zL) (x y : Int32) (st : List Value) (h : zH) : zXf zT znl d 69 72 lo (.int y :: .int x :: st) h = zXf zT znl d 69 73 lo (.int (x + y) :: st) h := (zXq (op := oBin (fun x y => x + y) 73) zT_69 rfl).trans rfl
theorem q69_73 (d : Nat) (lo : zL) (st : List Value) (h : zH) : zXf zT znl d 69 73 lo st h = zB zT znl d 69 (oPf 5 10 76 lo st h) := zXq (op := oPf 5 10 76) zT_69 rfl
theorem q69_76 (d : Nat) (lo : zL) (h : zH) : zXf zT znl d 69 76 lo [] h = some (none, h) := (zXq (op := oRet) zT_69 rfl).trans rfl
theorem q70_0 (d : Nat) (lo : zL) (st : List Value) (h : zH) : zXf zT znl d 70 0 lo st h = zXf zT znl d 70 1 lo (.int (nI 0) :: st) h := (zXq (op := oPush 0 1) zT_70 rfl).trans rfl
theorem q70_1 (d : Nat) (a0 : Value) (a1 : Value) (a2 : Value) (x : Int32) (l : zL) (st : List Value) (h : zH) (hz : zokv a1 = true) : zXf zT znl d 70 1 (a0 :: a1 :: a2 :: l) (.int x :: st) h = zXf zT znl d 70 2 (a0 :: a1 :: .int x :: l) st h := by
  refine (zXq (op := oIs 2 2) zT_70 rfl).trans ?_
  simp only [oIs, zok, hz, Bool.and_self, if_true, List.set_cons_succ, List.set_cons_zero, zB_go]
theorem q70_2 (d : Nat) (a0 : Value) (a1 : Value) (x : Int32) (l : zL) (st : List Value) (h : zH) : zXf zT znl d 70 2 (a0 :: a1 :: .int x :: l) st h = zXf zT znl d 70 3 (a0 :: a1 :: .int x :: l) (.int x :: st) h := (zXq (op := oIl 2 3) zT_70 rfl).trans rfl
theorem q70_3 (d : Nat) (a0 : Value) (x : Int32) (l : zL) (st : List Value) (h : zH) : zXf zT znl d 70 3 (a0 :: .int x :: l) st h = zXf zT znl d 70 4 (a0 :: .int x :: l) (.int x :: st) h := (zXq (op := oIl 1 4) zT_70 rfl).trans rfl
theorem q70_4 (d : Nat) (lo : zL) (x y : Int32) (st : List Value) (h : zH) : zXf zT znl d 70 4 lo (.int y :: .int x :: st) h = if y ≤ x then zXf zT znl d 70 29 lo st h else zXf zT znl d 70 7 lo st h := (zXq (op := oCGe 29 7) zT_70 rfl).trans (zB_if _ _)
theorem q70_7 (d : Nat) (x : Nat) (l : zL) (st : List Value) (h : zH) : zXf zT znl d 70 7 (.ref x :: l) st h = zXf zT znl d 70 8 (.ref x :: l) (.ref x :: st) h := (zXq (op := oAl 0 8) zT_70 rfl).trans rfl
theorem q70_8 (d : Nat) (lo : zL) (x0 : Value) (h : zH) (hr : zrc 5 [x0] = true) : zXf zT znl d 70 8 lo [x0] h = (zCf zT znl d 62 [x0] h).bind fun o => zXf zT znl d 70 11 lo (o.1.toList ++ []) o.2 := (zXq (op := oC1 5 62 11) zT_70 rfl).trans (zB_cl rfl hr)
theorem q70_11 (d : Nat) (x : Nat) (l : zL) (st : List Value) (h : zH) : zXf zT znl d 70 11 (.ref x :: l) st h = zXf zT znl d 70 12 (.ref x :: l) (.ref x :: st) h := (zXq (op := oAl 0 12) zT_70 rfl).trans rfl
theorem q70_12 (d : Nat) (lo : zL) (x0 : Value) (h : zH) (hr : zrc 5 [x0] = true) : zXf zT znl d 70 12 lo [x0] h = (zCf zT znl d 67 [x0] h).bind fun o => zXf zT znl d 70 15 lo (o.1.toList ++ []) o.2 := (zXq (op := oC1 5 67 15) zT_70 rfl).trans (zB_cl rfl hr)
theorem q70_15 (d : Nat) (x : Nat) (l : zL) (st : List Value) (h : zH) : zXf zT znl d 70 15 (.ref x :: l) st h = zXf zT znl d 70 16 (.ref x :: l) (.ref x :: st) h := (zXq (op := oAl 0 16) zT_70 rfl).trans rfl
theorem q70_16 (d : Nat) (lo : zL) (x0 : Value) (h : zH) (hr : zrc 5 [x0] = true) : zXf zT znl d 70 16 lo [x0] h = (zCf zT znl d 68 [x0] h).bind fun o => zXf zT znl d 70 19 lo (o.1.toList ++ []) o.2 := (zXq (op := oC1 5 68 19) zT_70 rfl).trans (zB_cl rfl hr)
theorem q70_19 (d : Nat) (x : Nat) (l : zL) (st : List Value) (h : zH) : zXf zT znl d 70 19 (.ref x :: l) st h = zXf zT znl d 70 20 (.ref x :: l) (.ref x :: st) h := (zXq (op := oAl 0 20) zT_70 rfl).trans rfl
theorem q70_20 (d : Nat) (lo : zL) (x0 : Value) (h : zH) (hr : zrc 5 [x0] = true) : zXf zT znl d 70 20 lo [x0] h = (zCf zT znl d 69 [x0] h).bind fun o => zXf zT znl d 70 23 lo (o.1.toList ++ []) o.2 := (zXq (op := oC1 5 69 23) zT_70 rfl).trans (zB_cl rfl hr)
theorem q70_23 (d : Nat) (a0 : Value) (a1 : Value) (x : Int32) (l : zL) (st : List Value) (h : zH) (hz : zokv a1 = true) : zXf zT znl d 70 23 (a0 :: a1 :: .int x :: l) st h = zXf zT znl d 70 26 (a0 :: a1 :: .int (x + nI 1) :: l) st h := by
  refine (zXq (op := oInc 2 1 26) zT_70 rfl).trans ?_
  simp only [oInc, List.getElem?_cons_succ, List.getElem?_cons_zero, zok, hz, Bool.and_self, if_true, List.set_cons_succ, List.set_cons_zero, zB_go]
  try rfl
theorem q70_26 (d : Nat) (lo : zL) (st : List Value) (h : zH) : zXf zT znl d 70 26 lo st h = zXf zT znl d 70 2 lo st h := (zXq (op := oGoto 2) zT_70 rfl).trans rfl
theorem q70_29 (d : Nat) (lo : zL) (h : zH) : zXf zT znl d 70 29 lo [] h = some (none, h) := (zXq (op := oRet) zT_70 rfl).trans rfl
theorem q71_0 (d : Nat) (x : Nat) (l : zL) (st : List Value) (h : zH) : zXf zT znl d 71 0 (.ref x :: l) st h = zXf zT znl d 71 1 (.ref x :: l) (.ref x :: st) h := (zXq (op := oAl 0 1) zT_71 rfl).trans rfl
theorem q71_1 (d : Nat) (x : Nat) (l : zL) (st : List Value) (h : zH) : zXf zT znl d 71 1 (.ref x :: l) st h = zXf zT znl d 71 2 (.ref x :: l) (.ref x :: st) h := (zXq (op := oAl 0 2) zT_71 rfl).trans rfl
theorem q71_2 (d : Nat) (lo : zL) (st : List Value) (h : zH) : zXf zT znl d 71 2 lo st h = zB zT znl d 71 (oGf 5 11 5 lo st h) := zXq (op := oGf 5 11 5) zT_71 rfl
theorem q71_5 (d : Nat) (lo : zL) (st : List Value) (h : zH) : zXf zT znl d 71 5 lo st h = zXf zT znl d 71 7 lo (.int (nI 1103515245) :: st) h := (zXq (op := oPush 1103515245 7) zT_71 rfl).trans rfl
theorem q71_7 (d : Nat) (lo : zL) (x y : Int32) (st : List Value) (h : zH) : zXf zT znl d 71 7 lo (.int y :: .int x :: st) h = zXf zT znl d 71 8 lo (.int (x * y) :: st) h := (zXq (op := oBin (fun x y => x * y) 8) zT_71 rfl).trans rfl
theorem q71_8 (d : Nat) (lo : zL) (st : List Value) (h : zH) : zXf zT znl d 71 8 lo st h = zXf zT znl d 71 11 lo (.int (nI 12345) :: st) h := (zXq (op := oPush 12345 11) zT_71 rfl).trans rfl
theorem q71_11 (d : Nat) (lo : zL) (x y : Int32) (st : List Value) (h : zH) : zXf zT znl d 71 11 lo (.int y :: .int x :: st) h = zXf zT znl d 71 12 lo (.int (x + y) :: st) h := (zXq (op := oBin (fun x y => x + y) 12) zT_71 rfl).trans rfl
theorem q71_12 (d : Nat) (lo : zL) (st : List Value) (h : zH) : zXf zT znl d 71 12 lo st h = zB zT znl d 71 (oPf 5 11 15 lo st h) := zXq (op := oPf 5 11 15) zT_71 rfl
theorem q71_15 (d : Nat) (x : Nat) (l : zL) (st : List Value) (h : zH) : zXf zT znl d 71 15 (.ref x :: l) st h = zXf zT znl d 71 16 (.ref x :: l) (.ref x :: st) h := (zXq (op := oAl 0 16) zT_71 rfl).trans rfl
theorem q71_16 (d : Nat) (lo : zL) (st : List Value) (h : zH) : zXf zT znl d 71 16 lo st h = zB zT znl d 71 (oGf 5 12 19 lo st h) := zXq (op := oGf 5 12 19) zT_71 rfl
theorem q71_19 (d : Nat) (lo : zL) (x : Int32) (st : List Value) (h : zH) : zXf zT znl d 71 19 lo (.int x :: st) h = if x ≤ nI 0 then zXf zT znl d 71 37 lo st h else zXf zT znl d 71 22 lo st h := (zXq (op := oLe0 37 22) zT_71 rfl).trans (zB_if _ _)
theorem q71_22 (d : Nat) (x : Nat) (l : zL) (st : List Value) (h : zH) : zXf zT znl d 71 22 (.ref x :: l) st h = zXf zT znl d 71 23 (.ref x :: l) (.ref x :: st) h := (zXq (op := oAl 0 23) zT_71 rfl).trans rfl
theorem q71_23 (d : Nat) (lo : zL) (st : List Value) (h : zH) : zXf zT znl d 71 23 lo st h = zB zT znl d 71 (oGf 5 11 26 lo st h) := zXq (op := oGf 5 11 26) zT_71 rfl
theorem q71_26 (d : Nat) (lo : zL) (st : List Value) (h : zH) : zXf zT znl d 71 26 lo st h = zXf zT znl d 71 28 lo (.int (nI 8) :: st) h := (zXq (op := oPush 8 28) zT_71 rfl).trans rfl
theorem q71_28 (d : Nat) (lo : zL) (x y : Int32) (st : List Value) (h : zH) : zXf zT znl d 71 28 lo (.int y :: .int x :: st) h = zXf zT znl d 71 29 lo (.int ((x.toUInt32 >>> (y.toUInt32 &&& Int32.toUInt32 31)).toInt32) :: st) h := (zXq (op := oBin (fun x y => (x.toUInt32 >>> (y.toUInt32 &&& Int32.toUInt32 31)).toInt32) 29) zT_71 rfl).trans rfl
theorem q71_29 (d : Nat) (x : Nat) (l : zL) (st : List Value) (h : zH) : zXf zT znl d 71 29 (.ref x :: l) st h = zXf zT znl d 71 30 (.ref x :: l) (.ref x :: st) h := (zXq (op := oAl 0 30) zT_71 rfl).trans rfl
theorem q71_30 (d : Nat) (lo : zL) (st : List Value) (h : zH) : zXf zT znl d 71 30 lo st h = zB zT znl d 71 (oGf 5 12 33 lo st h) := zXq (op := oGf 5 12 33) zT_71 rfl
theorem q71_33 (d : Nat) (lo : zL) (x y : Int32) (st : List Value) (h : zH) (hy : ¬ y = 0) : zXf zT znl d 71 33 lo (.int y :: .int x :: st) h = zXf zT znl d 71 34 lo (.int (x % y) :: st) h := by
  refine (zXq (op := oRem 34) zT_71 rfl).trans ?_
  simp only [oRem, if_neg hy, zB_go]
theorem q71_34 (d : Nat) (lo : zL) (st : List Value) (h : zH) : zXf zT znl d 71 34 lo st h = zXf zT znl d 71 38 lo st h := (zXq (op := oGoto 38) zT_71 rfl).trans rfl
theorem q71_37 (d : Nat) (lo : zL) (st : List Value) (h : zH) : zXf zT znl d 71 37 lo st h = zXf zT znl d 71 38 lo (.int ((-1)) :: st) h := (zXq (op := oPush (-1) 38) zT_71 rfl).trans rfl
theorem q71_38 (d : Nat) (a0 : Value) (a1 : Value) (x : Int32) (l : zL) (st : List Value) (h : zH) (hz : zokv a0 = true) : zXf zT znl d 71 38 (a0 :: a1 :: l) (.int x :: st) h = zXf zT znl d 71 39 (a0 :: .int x :: l) st h := by
  refine (zXq (op := oIs 1 39) zT_71 rfl).trans ?_
  simp only [oIs, zok, hz, Bool.and_self, if_true, List.set_cons_succ, List.set_cons_zero, zB_go]
theorem q71_39 (d : Nat) (x : Nat) (l : zL) (st : List Value) (h : zH) : zXf zT znl d 71 39 (.ref x :: l) st h = zXf zT znl d 71 40 (.ref x :: l) (.ref x :: st) h := (zXq (op := oAl 0 40) zT_71 rfl).trans rfl
theorem q71_40 (d : Nat) (lo : zL) (x0 : Value) (h : zH) (hr : zrc 5 [x0] = true) : zXf zT znl d 71 40 lo [x0] h = (zCf zT znl d 64 [x0] h).bind fun o => zXf zT znl d 71 43 lo (o.1.toList ++ []) o.2 := (zXq (op := oC1 5 64 43) zT_71 rfl).trans (zB_cl rfl hr)
theorem q71_43 (d : Nat) (lo : zL) (x : Int32) (st : List Value) (h : zH) : zXf zT znl d 71 43 lo (.int x :: st) h = if x = nI 0 then zXf zT znl d 71 51 lo st h else zXf zT znl d 71 46 lo st h := (zXq (op := oEq0 51 46) zT_71 rfl).trans (zB_if _ _)
theorem q71_46 (d : Nat) (x : Nat) (l : zL) (st : List Value) (h : zH) : zXf zT znl d 71 46 (.ref x :: l) st h = zXf zT znl d 71 47 (.ref x :: l) (.ref x :: st) h := (zXq (op := oAl 0 47) zT_71 rfl).trans rfl
theorem q71_47 (d : Nat) (a0 : Value) (x : Int32) (l : zL) (st : List Value) (h : zH) : zXf zT znl d 71 47 (a0 :: .int x :: l) st h = zXf zT znl d 71 48 (a0 :: .int x :: l) (.int x :: st) h := (zXq (op := oIl 1 48) zT_71 rfl).trans rfl
theorem q71_48 (d : Nat) (lo : zL) (x0 x1 : Value) (h : zH) (hr : zrc 5 [x0, x1] = true) : zXf zT znl d 71 48 lo [x1, x0] h = (zCf zT znl d 66 [x0, x1] h).bind fun o => zXf zT znl d 71 51 lo (o.1.toList ++ []) o.2 := (zXq (op := oC2 5 66 51) zT_71 rfl).trans (zB_cl rfl hr)
theorem q71_51 (d : Nat) (x : Nat) (l : zL) (st : List Value) (h : zH) : zXf zT znl d 71 51 (.ref x :: l) st h = zXf zT znl d 71 52 (.ref x :: l) (.ref x :: st) h := (zXq (op := oAl 0 52) zT_71 rfl).trans rfl
theorem q71_52 (d : Nat) (lo : zL) (x0 : Value) (h : zH) (hr : zrc 5 [x0] = true) : zXf zT znl d 71 52 lo [x0] h = (zCf zT znl d 69 [x0] h).bind fun o => zXf zT znl d 71 55 lo (o.1.toList ++ []) o.2 := (zXq (op := oC1 5 69 55) zT_71 rfl).trans (zB_cl rfl hr)
theorem q71_55 (d : Nat) (lo : zL) (h : zH) : zXf zT znl d 71 55 lo [] h = some (none, h) := (zXq (op := oRet) zT_71 rfl).trans rfl
theorem q72_0 (d : Nat) (a0 : Value) (x : Nat) (l : zL) (st : List Value) (h : zH) : zXf zT znl d 72 0 (a0 :: .ref x :: l) st h = zXf zT znl d 72 1 (a0 :: .ref x :: l) (.ref x :: st) h := (zXq (op := oAl 1 1) zT_72 rfl).trans rfl
theorem q72_1 (d : Nat) (lo : zL) (st : List Value) (h : zH) : zXf zT znl d 72 1 lo st h = zXf zT znl d 72 2 lo (.int (nI 1) :: st) h := (zXq (op := oPush 1 2) zT_72 rfl).trans rfl
theorem q72_2 (d : Nat) (lo : zL) (st : List Value) (h : zH) : zXf zT znl d 72 2 lo st h = zB zT znl d 72 (oIald 3 lo st h) := zXq (op := oIald 3) zT_72 rfl
theorem q72_3 (d : Nat) (lo : zL) (st : List Value) (h : zH) : zXf zT znl d 72 3 lo st h = zXf zT znl d 72 5 lo (.int (nI 49) :: st) h := (zXq (op := oPush 49 5) zT_72 rfl).trans rfl
theorem q72_5 (d : Nat) (lo : zL) (x y : Int32) (st : List Value) (h : zH) : zXf zT znl d 72 5 lo (.int y :: .int x :: st) h = if y < x then zXf zT znl d 72 32 lo st h else zXf zT znl d 72 8 lo st h := (zXq (op := oCGt 32 8) zT_72 rfl).trans (zB_if _ _)
theorem q72_8 (d : Nat) (a0 : Value) (x : Nat) (l : zL) (st : List Value) (h : zH) : zXf zT znl d 72 8 (a0 :: .ref x :: l) st h = zXf zT znl d 72 9 (a0 :: .ref x :: l) (.ref x :: st) h := (zXq (op := oAl 1 9) zT_72 rfl).trans rfl
theorem q72_9 (d : Nat) (lo : zL) (st : List Value) (h : zH) : zXf zT znl d 72 9 lo st h = zXf zT znl d 72 10 lo (.int (nI 2) :: st) h := (zXq (op := oPush 2 10) zT_72 rfl).trans rfl
theorem q72_10 (d : Nat) (lo : zL) (st : List Value) (h : zH) : zXf zT znl d 72 10 lo st h = zB zT znl d 72 (oIald 11 lo st h) := zXq (op := oIald 11) zT_72 rfl
theorem q72_11 (d : Nat) (x : Nat) (l : zL) (st : List Value) (h : zH) : zXf zT znl d 72 11 (.ref x :: l) st h = zXf zT znl d 72 12 (.ref x :: l) (.ref x :: st) h := (zXq (op := oAl 0 12) zT_72 rfl).trans rfl
theorem q72_12 (d : Nat) (lo : zL) (st : List Value) (h : zH) : zXf zT znl d 72 12 lo st h = zB zT znl d 72 (oGf 5 9 15 lo st h) := zXq (op := oGf 5 9 15) zT_72 rfl
theorem q72_15 (d : Nat) (lo : zL) (x y : Int32) (st : List Value) (h : zH) : zXf zT znl d 72 15 lo (.int y :: .int x :: st) h = if x = y then zXf zT znl d 72 32 lo st h else zXf zT znl d 72 18 lo st h := (zXq (op := oCEq 32 18) zT_72 rfl).trans (zB_if _ _)
theorem q72_18 (d : Nat) (a0 : Value) (x : Nat) (l : zL) (st : List Value) (h : zH) : zXf zT znl d 72 18 (a0 :: .ref x :: l) st h = zXf zT znl d 72 19 (a0 :: .ref x :: l) (.ref x :: st) h := (zXq (op := oAl 1 19) zT_72 rfl).trans rfl
theorem q72_19 (d : Nat) (x : Nat) (l : zL) (st : List Value) (h : zH) : zXf zT znl d 72 19 (.ref x :: l) st h = zXf zT znl d 72 20 (.ref x :: l) (.ref x :: st) h := (zXq (op := oAl 0 20) zT_72 rfl).trans rfl
theorem q72_20 (d : Nat) (lo : zL) (st : List Value) (h : zH) : zXf zT znl d 72 20 lo st h = zB zT znl d 72 (oGf 5 9 23 lo st h) := zXq (op := oGf 5 9 23) zT_72 rfl
theorem q72_23 (d : Nat) (lo : zL) (x0 x1 : Value) (h : zH) : zXf zT znl d 72 23 lo [x1, x0] h = (zCf zT znl d 3 [x0, x1] h).bind fun o => zXf zT znl d 72 26 lo (o.1.toList ++ []) o.2 := (zXq (op := oC2 98 3 26) zT_72 rfl).trans (zB_cl rfl rfl)
theorem q72_26 (d : Nat) (a0 : Value) (x : Nat) (l : zL) (st : List Value) (h : zH) : zXf zT znl d 72 26 (a0 :: .ref x :: l) st h = zXf zT znl d 72 27 (a0 :: .ref x :: l) (.ref x :: st) h := (zXq (op := oAl 1 27) zT_72 rfl).trans rfl
theorem q72_27 (d : Nat) (lo : zL) (st : List Value) (h : zH) : zXf zT znl d 72 27 lo st h = zXf zT znl d 72 28 lo (.int (nI 1) :: st) h := (zXq (op := oPush 1 28) zT_72 rfl).trans rfl
theorem q72_28 (d : Nat) (lo : zL) (st : List Value) (h : zH) : zXf zT znl d 72 28 lo st h = zB zT znl d 72 (oIald 29 lo st h) := zXq (op := oIald 29) zT_72 rfl
theorem q72_29 (d : Nat) (lo : zL) (x y : Int32) (st : List Value) (h : zH) : zXf zT znl d 72 29 lo (.int y :: .int x :: st) h = if x < y then zXf zT znl d 72 34 lo st h else zXf zT znl d 72 32 lo st h := (zXq (op := oCLt 34 32) zT_72 rfl).trans (zB_if _ _)
theorem q72_32 (d : Nat) (lo : zL) (st : List Value) (h : zH) : zXf zT znl d 72 32 lo st h = zXf zT znl d 72 33 lo (.int (nI 0) :: st) h := (zXq (op := oPush 0 33) zT_72 rfl).trans rfl
theorem q72_33 (d : Nat) (lo : zL) (x : Int32) (h : zH) (hx : x = 0 ∨ x = 1) : zXf zT znl d 72 33 lo [.int x] h = some (some (.int x), h) := by
  refine (zXq (op := oZret) zT_72 rfl).trans ?_
  simp only [oZret, if_pos hx, zB_end]
theorem q72_34 (d : Nat) (a0 : Value) (x : Nat) (l : zL) (st : List Value) (h : zH) : zXf zT znl d 72 34 (a0 :: .ref x :: l) st h = zXf zT znl d 72 35 (a0 :: .ref x :: l) (.ref x :: st) h := (zXq (op := oAl 1 35) zT_72 rfl).trans rfl
theorem q72_35 (d : Nat) (lo : zL) (st : List Value) (h : zH) : zXf zT znl d 72 35 lo st h = zXf zT znl d 72 36 lo (.int (nI 2) :: st) h := (zXq (op := oPush 2 36) zT_72 rfl).trans rfl
theorem q72_36 (d : Nat) (x : Nat) (l : zL) (st : List Value) (h : zH) : zXf zT znl d 72 36 (.ref x :: l) st h = zXf zT znl d 72 37 (.ref x :: l) (.ref x :: st) h := (zXq (op := oAl 0 37) zT_72 rfl).trans rfl
theorem q72_37 (d : Nat) (a0 : Value) (x : Nat) (l : zL) (st : List Value) (h : zH) : zXf zT znl d 72 37 (a0 :: .ref x :: l) st h = zXf zT znl d 72 38 (a0 :: .ref x :: l) (.ref x :: st) h := (zXq (op := oAl 1 38) zT_72 rfl).trans rfl
theorem q72_38 (d : Nat) (lo : zL) (st : List Value) (h : zH) : zXf zT znl d 72 38 lo st h = zXf zT znl d 72 39 lo (.int (nI 2) :: st) h := (zXq (op := oPush 2 39) zT_72 rfl).trans rfl
theorem q72_39 (d : Nat) (lo : zL) (st : List Value) (h : zH) : zXf zT znl d 72 39 lo st h = zB zT znl d 72 (oIald 40 lo st h) := zXq (op := oIald 40) zT_72 rfl
theorem q72_40 (d : Nat) (x : Nat) (l : zL) (st : List Value) (h : zH) : zXf zT znl d 72 40 (.ref x :: l) st h = zXf zT znl d 72 41 (.ref x :: l) (.ref x :: st) h := (zXq (op := oAl 0 41) zT_72 rfl).trans rfl
theorem q72_41 (d : Nat) (lo : zL) (st : List Value) (h : zH) : zXf zT znl d 72 41 lo st h = zB zT znl d 72 (oGf 5 9 44 lo st h) := zXq (op := oGf 5 9 44) zT_72 rfl
theorem q72_44 (d : Nat) (lo : zL) (st : List Value) (h : zH) : zXf zT znl d 72 44 lo st h = zXf zT znl d 72 45 lo (.int (nI 1) :: st) h := (zXq (op := oPush 1 45) zT_72 rfl).trans rfl
theorem q72_45 (d : Nat) (lo : zL) (x0 x1 x2 x3 s0 s1 : Value) (h : zH) (hr : zrc 5 [x0, x1, x2, x3] = true) : zXf zT znl d 72 45 lo [x3, x2, x1, x0, s0, s1] h = (zCf zT znl d 55 [x0, x1, x2, x3] h).bind fun o => zXf zT znl d 72 48 lo (o.1.toList ++ [s0, s1]) o.2 := (zXq (op := oC4 5 55 48) zT_72 rfl).trans (zB_cl rfl hr)
theorem q72_48 (d : Nat) (lo : zL) (st : List Value) (h : zH) : zXf zT znl d 72 48 lo st h = zB zT znl d 72 (oIast 49 lo st h) := zXq (op := oIast 49) zT_72 rfl
theorem q72_49 (d : Nat) (lo : zL) (st : List Value) (h : zH) : zXf zT znl d 72 49 lo st h = zXf zT znl d 72 50 lo (.int (nI 1) :: st) h := (zXq (op := oPush 1 50) zT_72 rfl).trans rfl
theorem q72_50 (d : Nat) (lo : zL) (x : Int32) (h : zH) (hx : x = 0 ∨ x = 1) : zXf zT znl d 72 50 lo [.int x] h = some (some (.int x), h) := by
  refine (zXq (op := oZret) zT_72 rfl).trans ?_
  simp only [oZret, if_pos hx, zB_end]
theorem q73_0 (d : Nat) (lo : zL) (st : List Value) (h : zH) : zXf zT znl d 73 0 lo st h = zXf zT znl d 73 1 lo (.int (nI 0) :: st) h := (zXq (op := oPush 0 1) zT_73 rfl).trans rfl
theorem q73_1 (d : Nat) (a0 : Value) (a1 : Value) (a2 : Value) (x : Int32) (l : zL) (st : List Value) (h : zH) (hz : zokv a1 = true) : zXf zT znl d 73 1 (a0 :: a1 :: a2 :: l) (.int x :: st) h = zXf zT znl d 73 2 (a0 :: a1 :: .int x :: l) st h := by
  refine (zXq (op := oIs 2 2) zT_73 rfl).trans ?_
  simp only [oIs, zok, hz, Bool.and_self, if_true, List.set_cons_succ, List.set_cons_zero, zB_go]
theorem q73_2 (d : Nat) (lo : zL) (st : List Value) (h : zH) : zXf zT znl d 73 2 lo st h = zXf zT znl d 73 3 lo (.int (nI 0) :: st) h := (zXq (op := oPush 0 3) zT_73 rfl).trans rfl
theorem q73_3 (d : Nat) (a0 : Value) (a1 : Value) (a2 : Value) (a3 : Value) (x : Int32) (l : zL) (st : List Value) (h : zH) (hz : zokv a2 = true) : zXf zT znl d 73 3 (a0 :: a1 :: a2 :: a3 :: l) (.int x :: st) h = zXf zT znl d 73 4 (a0 :: a1 :: a2 :: .int x :: l) st h := by
  refine (zXq (op := oIs 3 4) zT_73 rfl).trans ?_
  simp only [oIs, zok, hz, Bool.and_self, if_true, List.set_cons_succ, List.set_cons_zero, zB_go]
theorem q73_4 (d : Nat) (a0 : Value) (a1 : Value) (a2 : Value) (x : Int32) (l : zL) (st : List Value) (h : zH) : zXf zT znl d 73 4 (a0 :: a1 :: a2 :: .int x :: l) st h = zXf zT znl d 73 5 (a0 :: a1 :: a2 :: .int x :: l) (.int x :: st) h := (zXq (op := oIl 3 5) zT_73 rfl).trans rfl
theorem q73_5 (d : Nat) (x : Nat) (l : zL) (st : List Value) (h : zH) : zXf zT znl d 73 5 (.ref x :: l) st h = zXf zT znl d 73 6 (.ref x :: l) (.ref x :: st) h := (zXq (op := oAl 0 6) zT_73 rfl).trans rfl
theorem q73_6 (d : Nat) (lo : zL) (st : List Value) (h : zH) : zXf zT znl d 73 6 lo st h = zB zT znl d 73 (oGf 5 12 9 lo st h) := zXq (op := oGf 5 12 9) zT_73 rfl
theorem q73_9 (d : Nat) (lo : zL) (x y : Int32) (st : List Value) (h : zH) : zXf zT znl d 73 9 lo (.int y :: .int x :: st) h = if y ≤ x then zXf zT znl d 73 31 lo st h else zXf zT znl d 73 12 lo st h := (zXq (op := oCGe 31 12) zT_73 rfl).trans (zB_if _ _)
theorem q73_12 (d : Nat) (a0 : Value) (a1 : Value) (x : Int32) (l : zL) (st : List Value) (h : zH) : zXf zT znl d 73 12 (a0 :: a1 :: .int x :: l) st h = zXf zT znl d 73 13 (a0 :: a1 :: .int x :: l) (.int x :: st) h := (zXq (op := oIl 2 13) zT_73 rfl).trans rfl
theorem q73_13 (d : Nat) (x : Nat) (l : zL) (st : List Value) (h : zH) : zXf zT znl d 73 13 (.ref x :: l) st h = zXf zT znl d 73 14 (.ref x :: l) (.ref x :: st) h := (zXq (op := oAl 0 14) zT_73 rfl).trans rfl
theorem q73_14 (d : Nat) (lo : zL) (st : List Value) (h : zH) : zXf zT znl d 73 14 lo st h = zB zT znl d 73 (oGf 5 2 17 lo st h) := zXq (op := oGf 5 2 17) zT_73 rfl
theorem q73_17 (d : Nat) (a0 : Value) (a1 : Value) (a2 : Value) (x : Int32) (l : zL) (st : List Value) (h : zH) : zXf zT znl d 73 17 (a0 :: a1 :: a2 :: .int x :: l) st h = zXf zT znl d 73 18 (a0 :: a1 :: a2 :: .int x :: l) (.int x :: st) h := (zXq (op := oIl 3 18) zT_73 rfl).trans rfl
theorem q73_18 (d : Nat) (lo : zL) (st : List Value) (h : zH) : zXf zT znl d 73 18 lo st h = zB zT znl d 73 (oAald 19 lo st h) := zXq (op := oAald 19) zT_73 rfl
theorem q73_19 (d : Nat) (a0 : Value) (x : Int32) (l : zL) (st : List Value) (h : zH) : zXf zT znl d 73 19 (a0 :: .int x :: l) st h = zXf zT znl d 73 20 (a0 :: .int x :: l) (.int x :: st) h := (zXq (op := oIl 1 20) zT_73 rfl).trans rfl
theorem q73_20 (d : Nat) (lo : zL) (x0 x1 s0 : Value) (h : zH) : zXf zT znl d 73 20 lo [x1, x0, s0] h = (zCf zT znl d 3 [x0, x1] h).bind fun o => zXf zT znl d 73 23 lo (o.1.toList ++ [s0]) o.2 := (zXq (op := oC2 98 3 23) zT_73 rfl).trans (zB_cl rfl rfl)
theorem q73_23 (d : Nat) (lo : zL) (x y : Int32) (st : List Value) (h : zH) : zXf zT znl d 73 23 lo (.int y :: .int x :: st) h = zXf zT znl d 73 24 lo (.int (x + y) :: st) h := (zXq (op := oBin (fun x y => x + y) 24) zT_73 rfl).trans rfl
theorem q73_24 (d : Nat) (a0 : Value) (a1 : Value) (a2 : Value) (x : Int32) (l : zL) (st : List Value) (h : zH) (hz : zokv a1 = true) : zXf zT znl d 73 24 (a0 :: a1 :: a2 :: l) (.int x :: st) h = zXf zT znl d 73 25 (a0 :: a1 :: .int x :: l) st h := by
  refine (zXq (op := oIs 2 25) zT_73 rfl).trans ?_
  simp only [oIs, zok, hz, Bool.and_self, if_true, List.set_cons_succ, List.set_cons_zero, zB_go]
theorem q73_25 (d : Nat) (a0 : Value) (a1 : Value) (a2 : Value) (x : Int32) (l : zL) (st : List Value) (h : zH) (hz : zokv a2 = true) : zXf zT znl d 73 25 (a0 :: a1 :: a2 :: .int x :: l) st h = zXf zT znl d 73 28 (a0 :: a1 :: a2 :: .int (x + nI 1) :: l) st h := by
  refine (zXq (op := oInc 3 1 28) zT_73 rfl).trans ?_
  simp only [oInc, List.getElem?_cons_succ, List.getElem?_cons_zero, zok, hz, Bool.and_self, if_true, List.set_cons_succ, List.set_cons_zero, zB_go]
  try rfl
theorem q73_28 (d : Nat) (lo : zL) (st : List Value) (h : zH) : zXf zT znl d 73 28 lo st h = zXf zT znl d 73 4 lo st h := (zXq (op := oGoto 4) zT_73 rfl).trans rfl
theorem q73_31 (d : Nat) (a0 : Value) (a1 : Value) (x : Int32) (l : zL) (st : List Value) (h : zH) : zXf zT znl d 73 31 (a0 :: a1 :: .int x :: l) st h = zXf zT znl d 73 32 (a0 :: a1 :: .int x :: l) (.int x :: st) h := (zXq (op := oIl 2 32) zT_73 rfl).trans rfl
theorem q73_32 (d : Nat) (lo : zL) (x : Int32) (h : zH) : zXf zT znl d 73 32 lo [.int x] h = some (some (.int x), h) := (zXq (op := oIret) zT_73 rfl).trans rfl
theorem q74_0 (d : Nat) (lo : zL) (st : List Value) (h : zH) : zXf zT znl d 74 0 lo st h = zXf zT znl d 74 1 lo (.int (nI 0) :: st) h := (zXq (op := oPush 0 1) zT_74 rfl).trans rfl
theorem q74_1 (d : Nat) (a0 : Value) (a1 : Value) (x : Int32) (l : zL) (st : List Value) (h : zH) (hz : zokv a0 = true) : zXf zT znl d 74 1 (a0 :: a1 :: l) (.int x :: st) h = zXf zT znl d 74 2 (a0 :: .int x :: l) st h := by
  refine (zXq (op := oIs 1 2) zT_74 rfl).trans ?_
  simp only [oIs, zok, hz, Bool.and_self, if_true, List.set_cons_succ, List.set_cons_zero, zB_go]
theorem q74_2 (d : Nat) (lo : zL) (st : List Value) (h : zH) : zXf zT znl d 74 2 lo st h = zXf zT znl d 74 3 lo (.int (nI 1) :: st) h := (zXq (op := oPush 1 3) zT_74 rfl).trans rfl
theorem q74_3 (d : Nat) (a0 : Value) (a1 : Value) (a2 : Value) (x : Int32) (l : zL) (st : List Value) (h : zH) (hz : zokv a1 = true) : zXf zT znl d 74 3 (a0 :: a1 :: a2 :: l) (.int x :: st) h = zXf zT znl d 74 4 (a0 :: a1 :: .int x :: l) st h := by
  refine (zXq (op := oIs 2 4) zT_74 rfl).trans ?_
  simp only [oIs, zok, hz, Bool.and_self, if_true, List.set_cons_succ, List.set_cons_zero, zB_go]
theorem q74_4 (d : Nat) (a0 : Value) (a1 : Value) (x : Int32) (l : zL) (st : List Value) (h : zH) : zXf zT znl d 74 4 (a0 :: a1 :: .int x :: l) st h = zXf zT znl d 74 5 (a0 :: a1 :: .int x :: l) (.int x :: st) h := (zXq (op := oIl 2 5) zT_74 rfl).trans rfl
theorem q74_5 (d : Nat) (x : Nat) (l : zL) (st : List Value) (h : zH) : zXf zT znl d 74 5 (.ref x :: l) st h = zXf zT znl d 74 6 (.ref x :: l) (.ref x :: st) h := (zXq (op := oAl 0 6) zT_74 rfl).trans rfl
theorem q74_6 (d : Nat) (lo : zL) (st : List Value) (h : zH) : zXf zT znl d 74 6 lo st h = zB zT znl d 74 (oGf 5 12 9 lo st h) := zXq (op := oGf 5 12 9) zT_74 rfl
theorem q74_9 (d : Nat) (lo : zL) (x y : Int32) (st : List Value) (h : zH) : zXf zT znl d 74 9 lo (.int y :: .int x :: st) h = if y ≤ x then zXf zT znl d 74 41 lo st h else zXf zT znl d 74 12 lo st h := (zXq (op := oCGe 41 12) zT_74 rfl).trans (zB_if _ _)
theorem q74_12 (d : Nat) (x : Nat) (l : zL) (st : List Value) (h : zH) : zXf zT znl d 74 12 (.ref x :: l) st h = zXf zT znl d 74 13 (.ref x :: l) (.ref x :: st) h := (zXq (op := oAl 0 13) zT_74 rfl).trans rfl
theorem q74_13 (d : Nat) (lo : zL) (st : List Value) (h : zH) : zXf zT znl d 74 13 lo st h = zB zT znl d 74 (oGf 5 2 16 lo st h) := zXq (op := oGf 5 2 16) zT_74 rfl
theorem q74_16 (d : Nat) (a0 : Value) (a1 : Value) (x : Int32) (l : zL) (st : List Value) (h : zH) : zXf zT znl d 74 16 (a0 :: a1 :: .int x :: l) st h = zXf zT znl d 74 17 (a0 :: a1 :: .int x :: l) (.int x :: st) h := (zXq (op := oIl 2 17) zT_74 rfl).trans rfl
theorem q74_17 (d : Nat) (lo : zL) (st : List Value) (h : zH) : zXf zT znl d 74 17 lo st h = zB zT znl d 74 (oAald 18 lo st h) := zXq (op := oAald 18) zT_74 rfl
theorem q74_18 (d : Nat) (lo : zL) (st : List Value) (h : zH) : zXf zT znl d 74 18 lo st h = zXf zT znl d 74 20 lo (.int (nI 6) :: st) h := (zXq (op := oPush 6 20) zT_74 rfl).trans rfl
theorem q74_20 (d : Nat) (lo : zL) (st : List Value) (h : zH) : zXf zT znl d 74 20 lo st h = zB zT znl d 74 (oIald 21 lo st h) := zXq (op := oIald 21) zT_74 rfl
theorem q74_21 (d : Nat) (x : Nat) (l : zL) (st : List Value) (h : zH) : zXf zT znl d 74 21 (.ref x :: l) st h = zXf zT znl d 74 22 (.ref x :: l) (.ref x :: st) h := (zXq (op := oAl 0 22) zT_74 rfl).trans rfl
theorem q74_22 (d : Nat) (lo : zL) (st : List Value) (h : zH) : zXf zT znl d 74 22 lo st h = zB zT znl d 74 (oGf 5 2 25 lo st h) := zXq (op := oGf 5 2 25) zT_74 rfl
theorem q74_25 (d : Nat) (a0 : Value) (x : Int32) (l : zL) (st : List Value) (h : zH) : zXf zT znl d 74 25 (a0 :: .int x :: l) st h = zXf zT znl d 74 26 (a0 :: .int x :: l) (.int x :: st) h := (zXq (op := oIl 1 26) zT_74 rfl).trans rfl
theorem q74_26 (d : Nat) (lo : zL) (st : List Value) (h : zH) : zXf zT znl d 74 26 lo st h = zB zT znl d 74 (oAald 27 lo st h) := zXq (op := oAald 27) zT_74 rfl
theorem q74_27 (d : Nat) (lo : zL) (st : List Value) (h : zH) : zXf zT znl d 74 27 lo st h = zXf zT znl d 74 29 lo (.int (nI 6) :: st) h := (zXq (op := oPush 6 29) zT_74 rfl).trans rfl
theorem q74_29 (d : Nat) (lo : zL) (st : List Value) (h : zH) : zXf zT znl d 74 29 lo st h = zB zT znl d 74 (oIald 30 lo st h) := zXq (op := oIald 30) zT_74 rfl
theorem q74_30 (d : Nat) (lo : zL) (x y : Int32) (st : List Value) (h : zH) : zXf zT znl d 74 30 lo (.int y :: .int x :: st) h = if x ≤ y then zXf zT znl d 74 35 lo st h else zXf zT znl d 74 33 lo st h := (zXq (op := oCLe 35 33) zT_74 rfl).trans (zB_if _ _)
theorem q74_33 (d : Nat) (a0 : Value) (a1 : Value) (x : Int32) (l : zL) (st : List Value) (h : zH) : zXf zT znl d 74 33 (a0 :: a1 :: .int x :: l) st h = zXf zT znl d 74 34 (a0 :: a1 :: .int x :: l) (.int x :: st) h := (zXq (op := oIl 2 34) zT_74 rfl).trans rfl
theorem q74_34 (d : Nat) (a0 : Value) (a1 : Value) (x : Int32) (l : zL) (st : List Value) (h : zH) (hz : zokv a0 = true) : zXf zT znl d 74 34 (a0 :: a1 :: l) (.int x :: st) h = zXf zT znl d 74 35 (a0 :: .int x :: l) st h := by
  refine (zXq (op := oIs 1 35) zT_74 rfl).trans ?_
  simp only [oIs, zok, hz, Bool.and_self, if_true, List.set_cons_succ, List.set_cons_zero, zB_go]
theorem q74_35 (d : Nat) (a0 : Value) (a1 : Value) (x : Int32) (l : zL) (st : List Value) (h : zH) (hz : zokv a1 = true) : zXf zT znl d 74 35 (a0 :: a1 :: .int x :: l) st h = zXf zT znl d 74 38 (a0 :: a1 :: .int (x + nI 1) :: l) st h := by
  refine (zXq (op := oInc 2 1 38) zT_74 rfl).trans ?_
  simp only [oInc, List.getElem?_cons_succ, List.getElem?_cons_zero, zok, hz, Bool.and_self, if_true, List.set_cons_succ, List.set_cons_zero, zB_go]
  try rfl
theorem q74_38 (d : Nat) (lo : zL) (st : List Value) (h : zH) : zXf zT znl d 74 38 lo st h = zXf zT znl d 74 4 lo st h := (zXq (op := oGoto 4) zT_74 rfl).trans rfl
theorem q74_41 (d : Nat) (a0 : Value) (x : Int32) (l : zL) (st : List Value) (h : zH) : zXf zT znl d 74 41 (a0 :: .int x :: l) st h = zXf zT znl d 74 42 (a0 :: .int x :: l) (.int x :: st) h := (zXq (op := oIl 1 42) zT_74 rfl).trans rfl
theorem q74_42 (d : Nat) (lo : zL) (x : Int32) (h : zH) : zXf zT znl d 74 42 lo [.int x] h = some (some (.int x), h) := (zXq (op := oIret) zT_74 rfl).trans rfl
theorem q75_0 (d : Nat) (x : Nat) (l : zL) (st : List Value) (h : zH) : zXf zT znl d 75 0 (.ref x :: l) st h = zXf zT znl d 75 1 (.ref x :: l) (.ref x :: st) h := (zXq (op := oAl 0 1) zT_75 rfl).trans rfl
theorem q75_1 (d : Nat) (lo : zL) (st : List Value) (h : zH) : zXf zT znl d 75 1 lo st h = zB zT znl d 75 (oGf 5 2 4 lo st h) := zXq (op := oGf 5 2 4) zT_75 rfl
theorem q75_4 (d : Nat) (lo : zL) (st : List Value) (h : zH) : zXf zT znl d 75 4 lo st h = zXf zT znl d 75 5 lo (.int (nI 0) :: st) h := (zXq (op := oPush 0 5) zT_75 rfl).trans rfl
theorem q75_5 (d : Nat) (lo : zL) (st : List Value) (h : zH) : zXf zT znl d 75 5 lo st h = zB zT znl d 75 (oAald 6 lo st h) := zXq (op := oAald 6) zT_75 rfl
theorem q75_6 (d : Nat) (lo : zL) (st : List Value) (h : zH) : zXf zT znl d 75 6 lo st h = zXf zT znl d 75 8 lo (.int (nI 6) :: st) h := (zXq (op := oPush 6 8) zT_75 rfl).trans rfl
theorem q75_8 (d : Nat) (lo : zL) (st : List Value) (h : zH) : zXf zT znl d 75 8 lo st h = zB zT znl d 75 (oIald 9 lo st h) := zXq (op := oIald 9) zT_75 rfl
theorem q75_9 (d : Nat) (a0 : Value) (a1 : Value) (x : Int32) (l : zL) (st : List Value) (h : zH) (hz : zokv a0 = true) : zXf zT znl d 75 9 (a0 :: a1 :: l) (.int x :: st) h = zXf zT znl d 75 10 (a0 :: .int x :: l) st h := by
  refine (zXq (op := oIs 1 10) zT_75 rfl).trans ?_
  simp only [oIs, zok, hz, Bool.and_self, if_true, List.set_cons_succ, List.set_cons_zero, zB_go]
theorem q75_10 (d : Nat) (lo : zL) (st : List Value) (h : zH) : zXf zT znl d 75 10 lo st h = zXf zT znl d 75 11 lo (.int (nI 1) :: st) h := (zXq (op := oPush 1 11) zT_75 rfl).trans rfl
theorem q75_11 (d : Nat) (a0 : Value) (a1 : Value) (a2 : Value) (x : Int32) (l : zL) (st : List Value) (h : zH) (hz : zokv a1 = true) : zXf zT znl d 75 11 (a0 :: a1 :: a2 :: l) (.int x :: st) h = zXf zT znl d 75 12 (a0 :: a1 :: .int x :: l) st h := by
  refine (zXq (op := oIs 2 12) zT_75 rfl).trans ?_
  simp only [oIs, zok, hz, Bool.and_self, if_true, List.set_cons_succ, List.set_cons_zero, zB_go]
theorem q75_12 (d : Nat) (a0 : Value) (a1 : Value) (x : Int32) (l : zL) (st : List Value) (h : zH) : zXf zT znl d 75 12 (a0 :: a1 :: .int x :: l) st h = zXf zT znl d 75 13 (a0 :: a1 :: .int x :: l) (.int x :: st) h := (zXq (op := oIl 2 13) zT_75 rfl).trans rfl
theorem q75_13 (d : Nat) (x : Nat) (l : zL) (st : List Value) (h : zH) : zXf zT znl d 75 13 (.ref x :: l) st h = zXf zT znl d 75 14 (.ref x :: l) (.ref x :: st) h := (zXq (op := oAl 0 14) zT_75 rfl).trans rfl
theorem q75_14 (d : Nat) (lo : zL) (st : List Value) (h : zH) : zXf zT znl d 75 14 lo st h = zB zT znl d 75 (oGf 5 12 17 lo st h) := zXq (op := oGf 5 12 17) zT_75 rfl
theorem q75_17 (d : Nat) (lo : zL) (x y : Int32) (st : List Value) (h : zH) : zXf zT znl d 75 17 lo (.int y :: .int x :: st) h = if y ≤ x then zXf zT znl d 75 40 lo st h else zXf zT znl d 75 20 lo st h := (zXq (op := oCGe 40 20) zT_75 rfl).trans (zB_if _ _)
theorem q75_20 (d : Nat) (a0 : Value) (x : Int32) (l : zL) (st : List Value) (h : zH) : zXf zT znl d 75 20 (a0 :: .int x :: l) st h = zXf zT znl d 75 21 (a0 :: .int x :: l) (.int x :: st) h := (zXq (op := oIl 1 21) zT_75 rfl).trans rfl
theorem q75_21 (d : Nat) (x : Nat) (l : zL) (st : List Value) (h : zH) : zXf zT znl d 75 21 (.ref x :: l) st h = zXf zT znl d 75 22 (.ref x :: l) (.ref x :: st) h := (zXq (op := oAl 0 22) zT_75 rfl).trans rfl
theorem q75_22 (d : Nat) (lo : zL) (st : List Value) (h : zH) : zXf zT znl d 75 22 lo st h = zB zT znl d 75 (oGf 5 2 25 lo st h) := zXq (op := oGf 5 2 25) zT_75 rfl
theorem q75_25 (d : Nat) (a0 : Value) (a1 : Value) (x : Int32) (l : zL) (st : List Value) (h : zH) : zXf zT znl d 75 25 (a0 :: a1 :: .int x :: l) st h = zXf zT znl d 75 26 (a0 :: a1 :: .int x :: l) (.int x :: st) h := (zXq (op := oIl 2 26) zT_75 rfl).trans rfl
theorem q75_26 (d : Nat) (lo : zL) (st : List Value) (h : zH) : zXf zT znl d 75 26 lo st h = zB zT znl d 75 (oAald 27 lo st h) := zXq (op := oAald 27) zT_75 rfl
theorem q75_27 (d : Nat) (lo : zL) (st : List Value) (h : zH) : zXf zT znl d 75 27 lo st h = zXf zT znl d 75 29 lo (.int (nI 6) :: st) h := (zXq (op := oPush 6 29) zT_75 rfl).trans rfl
theorem q75_29 (d : Nat) (lo : zL) (st : List Value) (h : zH) : zXf zT znl d 75 29 lo st h = zB zT znl d 75 (oIald 30 lo st h) := zXq (op := oIald 30) zT_75 rfl
theorem q75_30 (d : Nat) (lo : zL) (x0 x1 : Value) (h : zH) : zXf zT znl d 75 30 lo [x1, x0] h = (zCf zT znl d 206 [x0, x1] h).bind fun o => zXf zT znl d 75 33 lo (o.1.toList ++ []) o.2 := (zXq (op := oC2 98 206 33) zT_75 rfl).trans (zB_cl rfl rfl)
theorem q75_33 (d : Nat) (a0 : Value) (a1 : Value) (x : Int32) (l : zL) (st : List Value) (h : zH) (hz : zokv a0 = true) : zXf zT znl d 75 33 (a0 :: a1 :: l) (.int x :: st) h = zXf zT znl d 75 34 (a0 :: .int x :: l) st h := by
  refine (zXq (op := oIs 1 34) zT_75 rfl).trans ?_
  simp only [oIs, zok, hz, Bool.and_self, if_true, List.set_cons_succ, List.set_cons_zero, zB_go]
theorem q75_34 (d : Nat) (a0 : Value) (a1 : Value) (x : Int32) (l : zL) (st : List Value) (h : zH) (hz : zokv a1 = true) : zXf zT znl d 75 34 (a0 :: a1 :: .int x :: l) st h = zXf zT znl d 75 37 (a0 :: a1 :: .int (x + nI 1) :: l) st h := by
  refine (zXq (op := oInc 2 1 37) zT_75 rfl).trans ?_
  simp only [oInc, List.getElem?_cons_succ, List.getElem?_cons_zero, zok, hz, Bool.and_self, if_true, List.set_cons_succ, List.set_cons_zero, zB_go]
  try rfl
theorem q75_37 (d : Nat) (lo : zL) (st : List Value) (h : zH) : zXf zT znl d 75 37 lo st h = zXf zT znl d 75 12 lo st h := (zXq (op := oGoto 12) zT_75 rfl).trans rfl
theorem q75_40 (d : Nat) (a0 : Value) (x : Int32) (l : zL) (st : List Value) (h : zH) : zXf zT znl d 75 40 (a0 :: .int x :: l) st h = zXf zT znl d 75 41 (a0 :: .int x :: l) (.int x :: st) h := (zXq (op := oIl 1 41) zT_75 rfl).trans rfl
theorem q75_41 (d : Nat) (lo : zL) (x : Int32) (h : zH) : zXf zT znl d 75 41 lo [.int x] h = some (some (.int x), h) := (zXq (op := oIret) zT_75 rfl).trans rfl
theorem q76_0 (d : Nat) (lo : zL) (st : List Value) (h : zH) : zXf zT znl d 76 0 lo st h = zXf zT znl d 76 1 lo (.int (nI 0) :: st) h := (zXq (op := oPush 0 1) zT_76 rfl).trans rfl
theorem q76_1 (d : Nat) (a0 : Value) (a1 : Value) (x : Int32) (l : zL) (st : List Value) (h : zH) (hz : zokv a0 = true) : zXf zT znl d 76 1 (a0 :: a1 :: l) (.int x :: st) h = zXf zT znl d 76 2 (a0 :: .int x :: l) st h := by
  refine (zXq (op := oIs 1 2) zT_76 rfl).trans ?_
  simp only [oIs, zok, hz, Bool.and_self, if_true, List.set_cons_succ, List.set_cons_zero, zB_go]
theorem q76_2 (d : Nat) (lo : zL) (st : List Value) (h : zH) : zXf zT znl d 76 2 lo st h = zXf zT znl d 76 3 lo (.int (nI 0) :: st) h := (zXq (op := oPush 0 3) zT_76 rfl).trans rfl
theorem q76_3 (d : Nat) (a0 : Value) (a1 : Value) (a2 : Value) (x : Int32) (l : zL) (st : List Value) (h : zH) (hz : zokv a1 = true) : zXf zT znl d 76 3 (a0 :: a1 :: a2 :: l) (.int x :: st) h = zXf zT znl d 76 4 (a0 :: a1 :: .int x :: l) st h := by
  refine (zXq (op := oIs 2 4) zT_76 rfl).trans ?_
  simp only [oIs, zok, hz, Bool.and_self, if_true, List.set_cons_succ, List.set_cons_zero, zB_go]
theorem q76_4 (d : Nat) (a0 : Value) (a1 : Value) (x : Int32) (l : zL) (st : List Value) (h : zH) : zXf zT znl d 76 4 (a0 :: a1 :: .int x :: l) st h = zXf zT znl d 76 5 (a0 :: a1 :: .int x :: l) (.int x :: st) h := (zXq (op := oIl 2 5) zT_76 rfl).trans rfl
theorem q76_5 (d : Nat) (x : Nat) (l : zL) (st : List Value) (h : zH) : zXf zT znl d 76 5 (.ref x :: l) st h = zXf zT znl d 76 6 (.ref x :: l) (.ref x :: st) h := (zXq (op := oAl 0 6) zT_76 rfl).trans rfl
theorem q76_6 (d : Nat) (lo : zL) (st : List Value) (h : zH) : zXf zT znl d 76 6 lo st h = zB zT znl d 76 (oGf 5 12 9 lo st h) := zXq (op := oGf 5 12 9) zT_76 rfl
theorem q76_9 (d : Nat) (lo : zL) (x y : Int32) (st : List Value) (h : zH) : zXf zT znl d 76 9 lo (.int y :: .int x :: st) h = if y ≤ x then zXf zT znl d 76 30 lo st h else zXf zT znl d 76 12 lo st h := (zXq (op := oCGe 30 12) zT_76 rfl).trans (zB_if _ _)
theorem q76_12 (d : Nat) (a0 : Value) (x : Int32) (l : zL) (st : List Value) (h : zH) : zXf zT znl d 76 12 (a0 :: .int x :: l) st h = zXf zT znl d 76 13 (a0 :: .int x :: l) (.int x :: st) h := (zXq (op := oIl 1 13) zT_76 rfl).trans rfl
theorem q76_13 (d : Nat) (x : Nat) (l : zL) (st : List Value) (h : zH) : zXf zT znl d 76 13 (.ref x :: l) st h = zXf zT znl d 76 14 (.ref x :: l) (.ref x :: st) h := (zXq (op := oAl 0 14) zT_76 rfl).trans rfl
theorem q76_14 (d : Nat) (lo : zL) (st : List Value) (h : zH) : zXf zT znl d 76 14 lo st h = zB zT znl d 76 (oGf 5 2 17 lo st h) := zXq (op := oGf 5 2 17) zT_76 rfl
theorem q76_17 (d : Nat) (a0 : Value) (a1 : Value) (x : Int32) (l : zL) (st : List Value) (h : zH) : zXf zT znl d 76 17 (a0 :: a1 :: .int x :: l) st h = zXf zT znl d 76 18 (a0 :: a1 :: .int x :: l) (.int x :: st) h := (zXq (op := oIl 2 18) zT_76 rfl).trans rfl
theorem q76_18 (d : Nat) (lo : zL) (st : List Value) (h : zH) : zXf zT znl d 76 18 lo st h = zB zT znl d 76 (oAald 19 lo st h) := zXq (op := oAald 19) zT_76 rfl
theorem q76_19 (d : Nat) (lo : zL) (st : List Value) (h : zH) : zXf zT znl d 76 19 lo st h = zXf zT znl d 76 21 lo (.int (nI 6) :: st) h := (zXq (op := oPush 6 21) zT_76 rfl).trans rfl
theorem q76_21 (d : Nat) (lo : zL) (st : List Value) (h : zH) : zXf zT znl d 76 21 lo st h = zB zT znl d 76 (oIald 22 lo st h) := zXq (op := oIald 22) zT_76 rfl
theorem q76_22 (d : Nat) (lo : zL) (x y : Int32) (st : List Value) (h : zH) : zXf zT znl d 76 22 lo (.int y :: .int x :: st) h = zXf zT znl d 76 23 lo (.int (x + y) :: st) h := (zXq (op := oBin (fun x y => x + y) 23) zT_76 rfl).trans rfl
theorem q76_23 (d : Nat) (a0 : Value) (a1 : Value) (x : Int32) (l : zL) (st : List Value) (h : zH) (hz : zokv a0 = true) : zXf zT znl d 76 23 (a0 :: a1 :: l) (.int x :: st) h = zXf zT znl d 76 24 (a0 :: .int x :: l) st h := by
  refine (zXq (op := oIs 1 24) zT_76 rfl).trans ?_
  simp only [oIs, zok, hz, Bool.and_self, if_true, List.set_cons_succ, List.set_cons_zero, zB_go]
theorem q76_24 (d : Nat) (a0 : Value) (a1 : Value) (x : Int32) (l : zL) (st : List Value) (h : zH) (hz : zokv a1 = true) : zXf zT znl d 76 24 (a0 :: a1 :: .int x :: l) st h = zXf zT znl d 76 27 (a0 :: a1 :: .int (x + nI 1) :: l) st h := by
  refine (zXq (op := oInc 2 1 27) zT_76 rfl).trans ?_
  simp only [oInc, List.getElem?_cons_succ, List.getElem?_cons_zero, zok, hz, Bool.and_self, if_true, List.set_cons_succ, List.set_cons_zero, zB_go]
  try rfl
theorem q76_27 (d : Nat) (lo : zL) (st : List Value) (h : zH) : zXf zT znl d 76 27 lo st h = zXf zT znl d 76 4 lo st h := (zXq (op := oGoto 4) zT_76 rfl).trans rfl
theorem q76_30 (d : Nat) (a0 : Value) (x : Int32) (l : zL) (st : List Value) (h : zH) : zXf zT znl d 76 30 (a0 :: .int x :: l) st h = zXf zT znl d 76 31 (a0 :: .int x :: l) (.int x :: st) h := (zXq (op := oIl 1 31) zT_76 rfl).trans rfl
theorem q76_31 (d : Nat) (lo : zL) (x : Int32) (h : zH) : zXf zT znl d 76 31 lo [.int x] h = some (some (.int x), h) := (zXq (op := oIret) zT_76 rfl).trans rfl
theorem q77_0 (d : Nat) (lo : zL) (st : List Value) (h : zH) : zXf zT znl d 77 0 lo st h = zXf zT znl d 77 1 lo (.int (nI 0) :: st) h := (zXq (op := oPush 0 1) zT_77 rfl).trans rfl
theorem q77_1 (d : Nat) (a0 : Value) (a1 : Value) (x : Int32) (l : zL) (st : List Value) (h : zH) (hz : zokv a0 = true) : zXf zT znl d 77 1 (a0 :: a1 :: l) (.int x :: st) h = zXf zT znl d 77 2 (a0 :: .int x :: l) st h := by
  refine (zXq (op := oIs 1 2) zT_77 rfl).trans ?_
  simp only [oIs, zok, hz, Bool.and_self, if_true, List.set_cons_succ, List.set_cons_zero, zB_go]
theorem q77_2 (d : Nat) (lo : zL) (st : List Value) (h : zH) : zXf zT znl d 77 2 lo st h = zXf zT znl d 77 3 lo (.int (nI 0) :: st) h := (zXq (op := oPush 0 3) zT_77 rfl).trans rfl
theorem q77_3 (d : Nat) (a0 : Value) (a1 : Value) (a2 : Value) (x : Int32) (l : zL) (st : List Value) (h : zH) (hz : zokv a1 = true) : zXf zT znl d 77 3 (a0 :: a1 :: a2 :: l) (.int x :: st) h = zXf zT znl d 77 4 (a0 :: a1 :: .int x :: l) st h := by
  refine (zXq (op := oIs 2 4) zT_77 rfl).trans ?_
  simp only [oIs, zok, hz, Bool.and_self, if_true, List.set_cons_succ, List.set_cons_zero, zB_go]
theorem q77_4 (d : Nat) (a0 : Value) (a1 : Value) (x : Int32) (l : zL) (st : List Value) (h : zH) : zXf zT znl d 77 4 (a0 :: a1 :: .int x :: l) st h = zXf zT znl d 77 5 (a0 :: a1 :: .int x :: l) (.int x :: st) h := (zXq (op := oIl 2 5) zT_77 rfl).trans rfl
theorem q77_5 (d : Nat) (lo : zL) (st : List Value) (h : zH) : zXf zT znl d 77 5 lo st h = zXf zT znl d 77 7 lo (.int (nI 80) :: st) h := (zXq (op := oPush 80 7) zT_77 rfl).trans rfl
theorem q77_7 (d : Nat) (lo : zL) (x y : Int32) (st : List Value) (h : zH) : zXf zT znl d 77 7 lo (.int y :: .int x :: st) h = if y ≤ x then zXf zT znl d 77 29 lo st h else zXf zT znl d 77 10 lo st h := (zXq (op := oCGe 29 10) zT_77 rfl).trans (zB_if _ _)
theorem q77_10 (d : Nat) (x : Nat) (l : zL) (st : List Value) (h : zH) : zXf zT znl d 77 10 (.ref x :: l) st h = zXf zT znl d 77 11 (.ref x :: l) (.ref x :: st) h := (zXq (op := oAl 0 11) zT_77 rfl).trans rfl
theorem q77_11 (d : Nat) (lo : zL) (st : List Value) (h : zH) : zXf zT znl d 77 11 lo st h = zB zT znl d 77 (oGf 5 0 14 lo st h) := zXq (op := oGf 5 0 14) zT_77 rfl
theorem q77_14 (d : Nat) (a0 : Value) (a1 : Value) (x : Int32) (l : zL) (st : List Value) (h : zH) : zXf zT znl d 77 14 (a0 :: a1 :: .int x :: l) st h = zXf zT znl d 77 15 (a0 :: a1 :: .int x :: l) (.int x :: st) h := (zXq (op := oIl 2 15) zT_77 rfl).trans rfl
theorem q77_15 (d : Nat) (lo : zL) (st : List Value) (h : zH) : zXf zT znl d 77 15 lo st h = zB zT znl d 77 (oIald 16 lo st h) := zXq (op := oIald 16) zT_77 rfl
theorem q77_16 (d : Nat) (lo : zL) (st : List Value) (h : zH) : zXf zT znl d 77 16 lo st h = zXf zT znl d 77 17 lo (.int (nI 1) :: st) h := (zXq (op := oPush 1 17) zT_77 rfl).trans rfl
theorem q77_17 (d : Nat) (lo : zL) (x y : Int32) (st : List Value) (h : zH) : zXf zT znl d 77 17 lo (.int y :: .int x :: st) h = if x = y then zXf zT znl d 77 20 lo st h else zXf zT znl d 77 23 lo st h := (zXq (op := oCNe 23 20) zT_77 rfl).trans (zB_if _ _)
theorem q77_20 (d : Nat) (a0 : Value) (x : Int32) (l : zL) (st : List Value) (h : zH) (hz : zokv a0 = true) : zXf zT znl d 77 20 (a0 :: .int x :: l) st h = zXf zT znl d 77 23 (a0 :: .int (x + nI 1) :: l) st h := by
  refine (zXq (op := oInc 1 1 23) zT_77 rfl).trans ?_
  simp only [oInc, List.getElem?_cons_succ, List.getElem?_cons_zero, zok, hz, Bool.and_self, if_true, List.set_cons_succ, List.set_cons_zero, zB_go]
  try rfl
theorem q77_23 (d : Nat) (a0 : Value) (a1 : Value) (x : Int32) (l : zL) (st : List Value) (h : zH) (hz : zokv a1 = true) : zXf zT znl d 77 23 (a0 :: a1 :: .int x :: l) st h = zXf zT znl d 77 26 (a0 :: a1 :: .int (x + nI 1) :: l) st h := by
  refine (zXq (op := oInc 2 1 26) zT_77 rfl).trans ?_
  simp only [oInc, List.getElem?_cons_succ, List.getElem?_cons_zero, zok, hz, Bool.and_self, if_true, List.set_cons_succ, List.set_cons_zero, zB_go]
  try rfl
theorem q77_26 (d : Nat) (lo : zL) (st : List Value) (h : zH) : zXf zT znl d 77 26 lo st h = zXf zT znl d 77 4 lo st h := (zXq (op := oGoto 4) zT_77 rfl).trans rfl
theorem q77_29 (d : Nat) (a0 : Value) (x : Int32) (l : zL) (st : List Value) (h : zH) : zXf zT znl d 77 29 (a0 :: .int x :: l) st h = zXf zT znl d 77 30 (a0 :: .int x :: l) (.int x :: st) h := (zXq (op := oIl 1 30) zT_77 rfl).trans rfl
theorem q77_30 (d : Nat) (lo : zL) (x : Int32) (h : zH) : zXf zT znl d 77 30 lo [.int x] h = some (some (.int x), h) := (zXq (op := oIret) zT_77 rfl).trans rfl
theorem q78_0 (d : Nat) (x : Nat) (l : zL) (st : List Value) (h : zH) : zXf zT znl d 78 0 (.ref x :: l) st h = zXf zT znl d 78 1 (.ref x :: l) (.ref x :: st) h := (zXq (op := oAl 0 1) zT_78 rfl).trans rfl
theorem q78_1 (d : Nat) (lo : zL) (st : List Value) (h : zH) : zXf zT znl d 78 1 lo st h = zXf zT znl d 78 2 lo (.int (nI 0) :: st) h := (zXq (op := oPush 0 2) zT_78 rfl).trans rfl
theorem q78_2 (d : Nat) (lo : zL) (st : List Value) (h : zH) : zXf zT znl d 78 2 lo st h = zB zT znl d 78 (oPf 4 3 5 lo st h) := zXq (op := oPf 4 3 5) zT_78 rfl
theorem q78_5 (d : Nat) (x : Nat) (l : zL) (st : List Value) (h : zH) : zXf zT znl d 78 5 (.ref x :: l) st h = zXf zT znl d 78 6 (.ref x :: l) (.ref x :: st) h := (zXq (op := oAl 0 6) zT_78 rfl).trans rfl
theorem q78_6 (d : Nat) (lo : zL) (st : List Value) (h : zH) : zXf zT znl d 78 6 lo st h = zXf zT znl d 78 7 lo (.int (nI 1) :: st) h := (zXq (op := oPush 1 7) zT_78 rfl).trans rfl
theorem q78_7 (d : Nat) (lo : zL) (st : List Value) (h : zH) : zXf zT znl d 78 7 lo st h = zB zT znl d 78 (oPf 4 4 10 lo st h) := zXq (op := oPf 4 4 10) zT_78 rfl
theorem q78_10 (d : Nat) (lo : zL) (h : zH) : zXf zT znl d 78 10 lo [] h = some (none, h) := (zXq (op := oRet) zT_78 rfl).trans rfl
theorem q79_0 (d : Nat) (x : Nat) (l : zL) (st : List Value) (h : zH) : zXf zT znl d 79 0 (.ref x :: l) st h = zXf zT znl d 79 1 (.ref x :: l) (.ref x :: st) h := (zXq (op := oAl 0 1) zT_79 rfl).trans rfl
theorem q79_1 (d : Nat) (lo : zL) (st : List Value) (h : zH) : zXf zT znl d 79 1 lo st h = zB zT znl d 79 (oGf 4 3 4 lo st h) := zXq (op := oGf 4 3 4) zT_79 rfl
theorem q79_4 (d : Nat) (lo : zL) (st : List Value) (h : zH) : zXf zT znl d 79 4 lo st h = zXf zT znl d 79 6 lo (.int (nI 60) :: st) h := (zXq (op := oPush 60 6) zT_79 rfl).trans rfl
theorem q79_6 (d : Nat) (lo : zL) (x y : Int32) (st : List Value) (h : zH) : zXf zT znl d 79 6 lo (.int y :: .int x :: st) h = if y ≤ x then zXf zT znl d 79 39 lo st h else zXf zT znl d 79 9 lo st h := (zXq (op := oCGe 39 9) zT_79 rfl).trans (zB_if _ _)
theorem q79_9 (d : Nat) (x : Nat) (l : zL) (st : List Value) (h : zH) : zXf zT znl d 79 9 (.ref x :: l) st h = zXf zT znl d 79 10 (.ref x :: l) (.ref x :: st) h := (zXq (op := oAl 0 10) zT_79 rfl).trans rfl
theorem q79_10 (d : Nat) (lo : zL) (st : List Value) (h : zH) : zXf zT znl d 79 10 lo st h = zB zT znl d 79 (oGf 4 0 13 lo st h) := zXq (op := oGf 4 0 13) zT_79 rfl
theorem q79_13 (d : Nat) (x : Nat) (l : zL) (st : List Value) (h : zH) : zXf zT znl d 79 13 (.ref x :: l) st h = zXf zT znl d 79 14 (.ref x :: l) (.ref x :: st) h := (zXq (op := oAl 0 14) zT_79 rfl).trans rfl
theorem q79_14 (d : Nat) (lo : zL) (st : List Value) (h : zH) : zXf zT znl d 79 14 lo st h = zB zT znl d 79 (oGf 4 3 17 lo st h) := zXq (op := oGf 4 3 17) zT_79 rfl
theorem q79_17 (d : Nat) (a0 : Value) (x : Int32) (l : zL) (st : List Value) (h : zH) : zXf zT znl d 79 17 (a0 :: .int x :: l) st h = zXf zT znl d 79 18 (a0 :: .int x :: l) (.int x :: st) h := (zXq (op := oIl 1 18) zT_79 rfl).trans rfl
theorem q79_18 (d : Nat) (lo : zL) (st : List Value) (h : zH) : zXf zT znl d 79 18 lo st h = zB zT znl d 79 (oIast 19 lo st h) := zXq (op := oIast 19) zT_79 rfl
theorem q79_19 (d : Nat) (x : Nat) (l : zL) (st : List Value) (h : zH) : zXf zT znl d 79 19 (.ref x :: l) st h = zXf zT znl d 79 20 (.ref x :: l) (.ref x :: st) h := (zXq (op := oAl 0 20) zT_79 rfl).trans rfl
theorem q79_20 (d : Nat) (lo : zL) (st : List Value) (h : zH) : zXf zT znl d 79 20 lo st h = zB zT znl d 79 (oGf 4 1 23 lo st h) := zXq (op := oGf 4 1 23) zT_79 rfl
theorem q79_23 (d : Nat) (x : Nat) (l : zL) (st : List Value) (h : zH) : zXf zT znl d 79 23 (.ref x :: l) st h = zXf zT znl d 79 24 (.ref x :: l) (.ref x :: st) h := (zXq (op := oAl 0 24) zT_79 rfl).trans rfl
theorem q79_24 (d : Nat) (lo : zL) (st : List Value) (h : zH) : zXf zT znl d 79 24 lo st h = zB zT znl d 79 (oGf 4 3 27 lo st h) := zXq (op := oGf 4 3 27) zT_79 rfl
theorem q79_27 (d : Nat) (a0 : Value) (a1 : Value) (x : Int32) (l : zL) (st : List Value) (h : zH) : zXf zT znl d 79 27 (a0 :: a1 :: .int x :: l) st h = zXf zT znl d 79 28 (a0 :: a1 :: .int x :: l) (.int x :: st) h := (zXq (op := oIl 2 28) zT_79 rfl).trans rfl
theorem q79_28 (d : Nat) (lo : zL) (st : List Value) (h : zH) : zXf zT znl d 79 28 lo st h = zB zT znl d 79 (oIast 29 lo st h) := zXq (op := oIast 29) zT_79 rfl
theorem q79_29 (d : Nat) (x : Nat) (l : zL) (st : List Value) (h : zH) : zXf zT znl d 79 29 (.ref x :: l) st h = zXf zT znl d 79 30 (.ref x :: l) (.ref x :: st) h := (zXq (op := oAl 0 30) zT_79 rfl).trans rfl
theorem q79_30i (d : Nat) (lo : zL) (x : Int32) (st : List Value) (h : zH) : zXf zT znl d 79 30 lo (.int x :: st) h = zXf zT znl d 79 31 lo (.int x :: .int x :: st) h := (zXq (op := oDup 31) zT_79 rfl).trans rfl
theorem q79_30r (d : Nat) (lo : zL) (x : Nat) (st : List Value) (h : zH) : zXf zT znl d 79 30 lo (.ref x :: st) h = zXf zT znl d 79 31 lo (.ref x :: .ref x :: st) h := (zXq (op := oDup 31) zT_79 rfl).trans rfl
theorem q79_31 (d : Nat) (lo : zL) (st : List Value) (h : zH) : zXf zT znl d 79 31 lo st h = zB zT znl d 79 (oGf 4 3 34 lo st h) := zXq (op := oGf 4 3 34) zT_79 rfl
theorem q79_34 (d : Nat) (lo : zL) (st : List Value) (h : zH) : zXf zT znl d 79 34 lo st h = zXf zT znl d 79 35 lo (.int (nI 1) :: st) h := (zXq (op := oPush 1 35) zT_79 rfl).trans rfl
theorem q79_35 (d : Nat) (lo : zL) (x y : Int32) (st : List Value) (h : zH) : zXf zT znl d 79 35 lo (.int y :: .int x :: st) h = zXf zT znl d 79 36 lo (.int (x + y) :: st) h := (zXq (op := oBin (fun x y => x + y) 36) zT_79 rfl).trans rfl
theorem q79_36 (d : Nat) (lo : zL) (st : List Value) (h : zH) : zXf zT znl d 79 36 lo st h = zB zT znl d 79 (oPf 4 3 39 lo st h) := zXq (op := oPf 4 3 39) zT_79 rfl
theorem q79_39 (d : Nat) (lo : zL) (h : zH) : zXf zT znl d 79 39 lo [] h = some (none, h) := (zXq (op := oRet) zT_79 rfl).trans rfl
theorem q80_0 (d : Nat) (a0 : Value) (x : Nat) (l : zL) (st : List Value) (h : zH) : zXf zT znl d 80 0 (a0 :: .ref x :: l) st h = zXf zT znl d 80 1 (a0 :: .ref x :: l) (.ref x :: st) h := (zXq (op := oAl 1 1) zT_80 rfl).trans rfl
theorem q80_1 (d : Nat) (lo : zL) (st : List Value) (h : zH) : zXf zT znl d 80 1 lo st h = zB zT znl d 80 (oGf 4 0 4 lo st h) := zXq (op := oGf 4 0 4) zT_80 rfl
theorem q80_4 (d : Nat) (lo : zL) (st : List Value) (h : zH) : zXf zT znl d 80 4 lo st h = zXf zT znl d 80 5 lo (.int (nI 0) :: st) h := (zXq (op := oPush 0 5) zT_80 rfl).trans rfl
theorem q80_5 (d : Nat) (x : Nat) (l : zL) (st : List Value) (h : zH) : zXf zT znl d 80 5 (.ref x :: l) st h = zXf zT znl d 80 6 (.ref x :: l) (.ref x :: st) h := (zXq (op := oAl 0 6) zT_80 rfl).trans rfl
theorem q80_6 (d : Nat) (lo : zL) (st : List Value) (h : zH) : zXf zT znl d 80 6 lo st h = zB zT znl d 80 (oGf 4 0 9 lo st h) := zXq (op := oGf 4 0 9) zT_80 rfl
theorem q80_9 (d : Nat) (lo : zL) (st : List Value) (h : zH) : zXf zT znl d 80 9 lo st h = zXf zT znl d 80 10 lo (.int (nI 0) :: st) h := (zXq (op := oPush 0 10) zT_80 rfl).trans rfl
theorem q80_10 (d : Nat) (a0 : Value) (x : Nat) (l : zL) (st : List Value) (h : zH) : zXf zT znl d 80 10 (a0 :: .ref x :: l) st h = zXf zT znl d 80 11 (a0 :: .ref x :: l) (.ref x :: st) h := (zXq (op := oAl 1 11) zT_80 rfl).trans rfl
theorem q80_11 (d : Nat) (lo : zL) (st : List Value) (h : zH) : zXf zT znl d 80 11 lo st h = zB zT znl d 80 (oGf 4 3 14 lo st h) := zXq (op := oGf 4 3 14) zT_80 rfl
theorem q80_14 (d : Nat) (lo : zL) (st : List Value) (h : zH) : zXf zT znl d 80 14 lo st h = zB zT znl d 80 (oCpy 17 lo st h) := zXq (op := oCpy 17) zT_80 rfl
theorem q80_17 (d : Nat) (a0 : Value) (x : Nat) (l : zL) (st : List Value) (h : zH) : zXf zT znl d 80 17 (a0 :: .ref x :: l) st h = zXf zT znl d 80 18 (a0 :: .ref x :: l) (.ref x :: st) h := (zXq (op := oAl 1 18) zT_80 rfl).trans rfl
theorem q80_18 (d : Nat) (lo : zL) (st : List Value) (h : zH) : zXf zT znl d 80 18 lo st h = zB zT znl d 80 (oGf 4 1 21 lo st h) := zXq (op := oGf 4 1 21) zT_80 rfl
theorem q80_21 (d : Nat) (lo : zL) (st : List Value) (h : zH) : zXf zT znl d 80 21 lo st h = zXf zT znl d 80 22 lo (.int (nI 0) :: st) h := (zXq (op := oPush 0 22) zT_80 rfl).trans rfl
theorem q80_22 (d : Nat) (x : Nat) (l : zL) (st : List Value) (h : zH) : zXf zT znl d 80 22 (.ref x :: l) st h = zXf zT znl d 80 23 (.ref x :: l) (.ref x :: st) h := (zXq (op := oAl 0 23) zT_80 rfl).trans rfl
theorem q80_23 (d : Nat) (lo : zL) (st : List Value) (h : zH) : zXf zT znl d 80 23 lo st h = zB zT znl d 80 (oGf 4 1 26 lo st h) := zXq (op := oGf 4 1 26) zT_80 rfl
theorem q80_26 (d : Nat) (lo : zL) (st : List Value) (h : zH) : zXf zT znl d 80 26 lo st h = zXf zT znl d 80 27 lo (.int (nI 0) :: st) h := (zXq (op := oPush 0 27) zT_80 rfl).trans rfl
theorem q80_27 (d : Nat) (a0 : Value) (x : Nat) (l : zL) (st : List Value) (h : zH) : zXf zT znl d 80 27 (a0 :: .ref x :: l) st h = zXf zT znl d 80 28 (a0 :: .ref x :: l) (.ref x :: st) h := (zXq (op := oAl 1 28) zT_80 rfl).trans rfl
theorem q80_28 (d : Nat) (lo : zL) (st : List Value) (h : zH) : zXf zT znl d 80 28 lo st h = zB zT znl d 80 (oGf 4 3 31 lo st h) := zXq (op := oGf 4 3 31) zT_80 rfl
theorem q80_31 (d : Nat) (lo : zL) (st : List Value) (h : zH) : zXf zT znl d 80 31 lo st h = zB zT znl d 80 (oCpy 34 lo st h) := zXq (op := oCpy 34) zT_80 rfl
theorem q80_34 (d : Nat) (x : Nat) (l : zL) (st : List Value) (h : zH) : zXf zT znl d 80 34 (.ref x :: l) st h = zXf zT znl d 80 35 (.ref x :: l) (.ref x :: st) h := (zXq (op := oAl 0 35) zT_80 rfl).trans rfl
theorem q80_35 (d : Nat) (a0 : Value) (x : Nat) (l : zL) (st : List Value) (h : zH) : zXf zT znl d 80 35 (a0 :: .ref x :: l) st h = zXf zT znl d 80 36 (a0 :: .ref x :: l) (.ref x :: st) h := (zXq (op := oAl 1 36) zT_80 rfl).trans rfl
theorem q80_36 (d : Nat) (lo : zL) (st : List Value) (h : zH) : zXf zT znl d 80 36 lo st h = zB zT znl d 80 (oGf 4 3 39 lo st h) := zXq (op := oGf 4 3 39) zT_80 rfl
theorem q80_39 (d : Nat) (lo : zL) (st : List Value) (h : zH) : zXf zT znl d 80 39 lo st h = zB zT znl d 80 (oPf 4 3 42 lo st h) := zXq (op := oPf 4 3 42) zT_80 rfl
theorem q80_42 (d : Nat) (x : Nat) (l : zL) (st : List Value) (h : zH) : zXf zT znl d 80 42 (.ref x :: l) st h = zXf zT znl d 80 43 (.ref x :: l) (.ref x :: st) h := (zXq (op := oAl 0 43) zT_80 rfl).trans rfl
theorem q80_43 (d : Nat) (a0 : Value) (x : Nat) (l : zL) (st : List Value) (h : zH) : zXf zT znl d 80 43 (a0 :: .ref x :: l) st h = zXf zT znl d 80 44 (a0 :: .ref x :: l) (.ref x :: st) h := (zXq (op := oAl 1 44) zT_80 rfl).trans rfl
theorem q80_44 (d : Nat) (lo : zL) (st : List Value) (h : zH) : zXf zT znl d 80 44 lo st h = zB zT znl d 80 (oGf 4 4 47 lo st h) := zXq (op := oGf 4 4 47) zT_80 rfl
theorem q80_47 (d : Nat) (lo : zL) (st : List Value) (h : zH) : zXf zT znl d 80 47 lo st h = zB zT znl d 80 (oPf 4 4 50 lo st h) := zXq (op := oPf 4 4 50) zT_80 rfl
theorem q80_50 (d : Nat) (lo : zL) (h : zH) : zXf zT znl d 80 50 lo [] h = some (none, h) := (zXq (op := oRet) zT_80 rfl).trans rfl
theorem q81_0 (d : Nat) (x : Nat) (l : zL) (st : List Value) (h : zH) : zXf zT znl d 81 0 (.ref x :: l) st h = zXf zT znl d 81 1 (.ref x :: l) (.ref x :: st) h := (zXq (op := oAl 0 1) zT_81 rfl).trans rfl
theorem q81_1 (d : Nat) (lo : zL) (st : List Value) (h : zH) : zXf zT znl d 81 1 lo st h = zB zT znl d 81 (oGf 4 4 4 lo st h) := zXq (op := oGf 4 4 4) zT_81 rfl
theorem q81_4 (d : Nat) (a0 : Value) (a1 : Value) (x : Int32) (l : zL) (st : List Value) (h : zH) (hz : zokv a0 = true) : zXf zT znl d 81 4 (a0 :: a1 :: l) (.int x :: st) h = zXf zT znl d 81 5 (a0 :: .int x :: l) st h := by
  refine (zXq (op := oIs 1 5) zT_81 rfl).trans ?_
  simp only [oIs, zok, hz, Bool.and_self, if_true, List.set_cons_succ, List.set_cons_zero, zB_go]
theorem q81_5 (d : Nat) (x : Nat) (l : zL) (st : List Value) (h : zH) : zXf zT znl d 81 5 (.ref x :: l) st h = zXf zT znl d 81 6 (.ref x :: l) (.ref x :: st) h := (zXq (op := oAl 0 6) zT_81 rfl).trans rfl
theorem q81_6 (d : Nat) (lo : zL) (st : List Value) (h : zH) : zXf zT znl d 81 6 lo st h = zXf zT znl d 81 7 lo (.int (nI 0) :: st) h := (zXq (op := oPush 0 7) zT_81 rfl).trans rfl
theorem q81_7 (d : Nat) (lo : zL) (st : List Value) (h : zH) : zXf zT znl d 81 7 lo st h = zB zT znl d 81 (oPf 4 4 10 lo st h) := zXq (op := oPf 4 4 10) zT_81 rfl
theorem q81_10 (d : Nat) (x : Nat) (l : zL) (st : List Value) (h : zH) : zXf zT znl d 81 10 (.ref x :: l) st h = zXf zT znl d 81 11 (.ref x :: l) (.ref x :: st) h := (zXq (op := oAl 0 11) zT_81 rfl).trans rfl
theorem q81_11 (d : Nat) (lo : zL) (st : List Value) (h : zH) : zXf zT znl d 81 11 lo st h = zXf zT znl d 81 12 lo (.int (nI 0) :: st) h := (zXq (op := oPush 0 12) zT_81 rfl).trans rfl
theorem q81_12 (d : Nat) (lo : zL) (st : List Value) (h : zH) : zXf zT znl d 81 12 lo st h = zB zT znl d 81 (oPf 4 3 15 lo st h) := zXq (op := oPf 4 3 15) zT_81 rfl
theorem q81_15 (d : Nat) (a0 : Value) (x : Int32) (l : zL) (st : List Value) (h : zH) : zXf zT znl d 81 15 (a0 :: .int x :: l) st h = zXf zT znl d 81 16 (a0 :: .int x :: l) (.int x :: st) h := (zXq (op := oIl 1 16) zT_81 rfl).trans rfl
theorem q81_16 (d : Nat) (lo : zL) (x : Int32) (h : zH) (hx : x = 0 ∨ x = 1) : zXf zT znl d 81 16 lo [.int x] h = some (some (.int x), h) := by
  refine (zXq (op := oZret) zT_81 rfl).trans ?_
  simp only [oZret, if_pos hx, zB_end]
theorem q82_0 (d : Nat) (x : Int32) (l : zL) (st : List Value) (h : zH) : zXf zT znl d 82 0 (.int x :: l) st h = zXf zT znl d 82 1 (.int x :: l) (.int x :: st) h := (zXq (op := oIl 0 1) zT_82 rfl).trans rfl
theorem q82_1 (d : Nat) (lo : zL) (x : Int32) (st : List Value) (h : zH) : zXf zT znl d 82 1 lo (.int x :: st) h = if x = nI 37 then zXf zT znl d 82 177 lo st h else (if x = nI 38 then zXf zT znl d 82 106 lo st h else (if x = nI 42 then zXf zT znl d 82 161 lo st h else (if x = nI 43 then zXf zT znl d 82 153 lo st h else (if x = nI 45 then zXf zT znl d 82 157 lo st h else (if x = nI 47 then zXf zT znl d 82 165 lo st h else (if x = nI 60 then zXf zT znl d 82 120 lo st h else (if x = nI 61 then zXf zT znl d 82 131 lo st h else (if x = nI 62 then zXf zT znl d 82 142 lo st h else (if x = nI 124 then zXf zT znl d 82 92 lo st h else (zXf zT znl d 82 189 lo st h)))))))))) := by
  refine (zXq (op := oSw [(37, 177), (38, 106), (42, 161), (43, 153), (45, 157), (47, 165), (60, 120), (61, 131), (62, 142), (124, 92)] 189) zT_82 rfl).trans ?_
  simp only [oSw, zsw, zB_if, zB_go]
  try rfl
theorem q82_92 (d : Nat) (a0 : Value) (x : Int32) (l : zL) (st : List Value) (h : zH) : zXf zT znl d 82 92 (a0 :: .int x :: l) st h = zXf zT znl d 82 93 (a0 :: .int x :: l) (.int x :: st) h := (zXq (op := oIl 1 93) zT_82 rfl).trans rfl
theorem q82_93 (d : Nat) (lo : zL) (x : Int32) (st : List Value) (h : zH) : zXf zT znl d 82 93 lo (.int x :: st) h = if x = nI 0 then zXf zT znl d 82 96 lo st h else zXf zT znl d 82 100 lo st h := (zXq (op := oNe0 100 96) zT_82 rfl).trans (zB_if _ _)
theorem q82_96 (d : Nat) (a0 : Value) (a1 : Value) (x : Int32) (l : zL) (st : List Value) (h : zH) : zXf zT znl d 82 96 (a0 :: a1 :: .int x :: l) st h = zXf zT znl d 82 97 (a0 :: a1 :: .int x :: l) (.int x :: st) h := (zXq (op := oIl 2 97) zT_82 rfl).trans rfl
theorem q82_97 (d : Nat) (lo : zL) (x : Int32) (st : List Value) (h : zH) : zXf zT znl d 82 97 lo (.int x :: st) h = if x = nI 0 then zXf zT znl d 82 104 lo st h else zXf zT znl d 82 100 lo st h := (zXq (op := oEq0 104 100) zT_82 rfl).trans (zB_if _ _)
theorem q82_100 (d : Nat) (lo : zL) (st : List Value) (h : zH) : zXf zT znl d 82 100 lo st h = zXf zT znl d 82 101 lo (.int (nI 1) :: st) h := (zXq (op := oPush 1 101) zT_82 rfl).trans rfl
theorem q82_101 (d : Nat) (lo : zL) (st : List Value) (h : zH) : zXf zT znl d 82 101 lo st h = zXf zT znl d 82 105 lo st h := (zXq (op := oGoto 105) zT_82 rfl).trans rfl
theorem q82_104 (d : Nat) (lo : zL) (st : List Value) (h : zH) : zXf zT znl d 82 104 lo st h = zXf zT znl d 82 105 lo (.int (nI 0) :: st) h := (zXq (op := oPush 0 105) zT_82 rfl).trans rfl
theorem q82_105 (d : Nat) (lo : zL) (x : Int32) (h : zH) : zXf zT znl d 82 105 lo [.int x] h = some (some (.int x), h) := (zXq (op := oIret) zT_82 rfl).trans rfl
theorem q82_106 (d : Nat) (a0 : Value) (x : Int32) (l : zL) (st : List Value) (h : zH) : zXf zT znl d 82 106 (a0 :: .int x :: l) st h = zXf zT znl d 82 107 (a0 :: .int x :: l) (.int x :: st) h := (zXq (op := oIl 1 107) zT_82 rfl).trans rfl
theorem q82_107 (d : Nat) (lo : zL) (x : Int32) (st : List Value) (h : zH) : zXf zT znl d 82 107 lo (.int x :: st) h = if x = nI 0 then zXf zT znl d 82 118 lo st h else zXf zT znl d 82 110 lo st h := (zXq (op := oEq0 118 110) zT_82 rfl).trans (zB_if _ _)
theorem q82_110 (d : Nat) (a0 : Value) (a1 : Value) (x : Int32) (l : zL) (st : List Value) (h : zH) : zXf zT znl d 82 110 (a0 :: a1 :: .int x :: l) st h = zXf zT znl d 82 111 (a0 :: a1 :: .int x :: l) (.int x :: st) h := (zXq (op := oIl 2 111) zT_82 rfl).trans rfl
theorem q82_111 (d : Nat) (lo : zL) (x : Int32) (st : List Value) (h : zH) : zXf zT znl d 82 111 lo (.int x :: st) h = if x = nI 0 then zXf zT znl d 82 118 lo st h else zXf zT znl d 82 114 lo st h := (zXq (op := oEq0 118 114) zT_82 rfl).trans (zB_if _ _)
theorem q82_114 (d : Nat) (lo : zL) (st : List Value) (h : zH) : zXf zT znl d 82 114 lo st h = zXf zT znl d 82 115 lo (.int (nI 1) :: st) h := (zXq (op := oPush 1 115) zT_82 rfl).trans rfl
theorem q82_115 (d : Nat) (lo : zL) (st : List Value) (h : zH) : zXf zT znl d 82 115 lo st h = zXf zT znl d 82 119 lo st h := (zXq (op := oGoto 119) zT_82 rfl).trans rfl
theorem q82_118 (d : Nat) (lo : zL) (st : List Value) (h : zH) : zXf zT znl d 82 118 lo st h = zXf zT znl d 82 119 lo (.int (nI 0) :: st) h := (zXq (op := oPush 0 119) zT_82 rfl).trans rfl
theorem q82_119 (d : Nat) (lo : zL) (x : Int32) (h : zH) : zXf zT znl d 82 119 lo [.int x] h = some (some (.int x), h) := (zXq (op := oIret) zT_82 rfl).trans rfl
theorem q82_120 (d : Nat) (a0 : Value) (x : Int32) (l : zL) (st : List Value) (h : zH) : zXf zT znl d 82 120 (a0 :: .int x :: l) st h = zXf zT znl d 82 121 (a0 :: .int x :: l) (.int x :: st) h := (zXq (op := oIl 1 121) zT_82 rfl).trans rfl
theorem q82_121 (d : Nat) (a0 : Value) (a1 : Value) (x : Int32) (l : zL) (st : List Value) (h : zH) : zXf zT znl d 82 121 (a0 :: a1 :: .int x :: l) st h = zXf zT znl d 82 122 (a0 :: a1 :: .int x :: l) (.int x :: st) h := (zXq (op := oIl 2 122) zT_82 rfl).trans rfl
theorem q82_122 (d : Nat) (lo : zL) (x y : Int32) (st : List Value) (h : zH) : zXf zT znl d 82 122 lo (.int y :: .int x :: st) h = if y ≤ x then zXf zT znl d 82 129 lo st h else zXf zT znl d 82 125 lo st h := (zXq (op := oCGe 129 125) zT_82 rfl).trans (zB_if _ _)
theorem q82_125 (d : Nat) (lo : zL) (st : List Value) (h : zH) : zXf zT znl d 82 125 lo st h = zXf zT znl d 82 126 lo (.int (nI 1) :: st) h := (zXq (op := oPush 1 126) zT_82 rfl).trans rfl
theorem q82_126 (d : Nat) (lo : zL) (st : List Value) (h : zH) : zXf zT znl d 82 126 lo st h = zXf zT znl d 82 130 lo st h := (zXq (op := oGoto 130) zT_82 rfl).trans rfl
theorem q82_129 (d : Nat) (lo : zL) (st : List Value) (h : zH) : zXf zT znl d 82 129 lo st h = zXf zT znl d 82 130 lo (.int (nI 0) :: st) h := (zXq (op := oPush 0 130) zT_82 rfl).trans rfl
theorem q82_130 (d : Nat) (lo : zL) (x : Int32) (h : zH) : zXf zT znl d 82 130 lo [.int x] h = some (some (.int x), h) := (zXq (op := oIret) zT_82 rfl).trans rfl
theorem q82_131 (d : Nat) (a0 : Value) (x : Int32) (l : zL) (st : List Value) (h : zH) : zXf zT znl d 82 131 (a0 :: .int x :: l) st h = zXf zT znl d 82 132 (a0 :: .int x :: l) (.int x :: st) h := (zXq (op := oIl 1 132) zT_82 rfl).trans rfl
theorem q82_132 (d : Nat) (a0 : Value) (a1 : Value) (x : Int32) (l : zL) (st : List Value) (h : zH) : zXf zT znl d 82 132 (a0 :: a1 :: .int x :: l) st h = zXf zT znl d 82 133 (a0 :: a1 :: .int x :: l) (.int x :: st) h := (zXq (op := oIl 2 133) zT_82 rfl).trans rfl
theorem q82_133 (d : Nat) (lo : zL) (x y : Int32) (st : List Value) (h : zH) : zXf zT znl d 82 133 lo (.int y :: .int x :: st) h = if x = y then zXf zT znl d 82 136 lo st h else zXf zT znl d 82 140 lo st h := (zXq (op := oCNe 140 136) zT_82 rfl).trans (zB_if _ _)
theorem q82_136 (d : Nat) (lo : zL) (st : List Value) (h : zH) : zXf zT znl d 82 136 lo st h = zXf zT znl d 82 137 lo (.int (nI 1) :: st) h := (zXq (op := oPush 1 137) zT_82 rfl).trans rfl
theorem q82_137 (d : Nat) (lo : zL) (st : List Value) (h : zH) : zXf zT znl d 82 137 lo st h = zXf zT znl d 82 141 lo st h := (zXq (op := oGoto 141) zT_82 rfl).trans rfl
theorem q82_140 (d : Nat) (lo : zL) (st : List Value) (h : zH) : zXf zT znl d 82 140 lo st h = zXf zT znl d 82 141 lo (.int (nI 0) :: st) h := (zXq (op := oPush 0 141) zT_82 rfl).trans rfl
theorem q82_141 (d : Nat) (lo : zL) (x : Int32) (h : zH) : zXf zT znl d 82 141 lo [.int x] h = some (some (.int x), h) := (zXq (op := oIret) zT_82 rfl).trans rfl
theorem q82_142 (d : Nat) (a0 : Value) (x : Int32) (l : zL) (st : List Value) (h : zH) : zXf zT znl d 82 142 (a0 :: .int x :: l) st h = zXf zT znl d 82 143 (a0 :: .int x :: l) (.int x :: st) h := (zXq (op := oIl 1 143) zT_82 rfl).trans rfl
theorem q82_143 (d : Nat) (a0 : Value) (a1 : Value) (x : Int32) (l : zL) (st : List Value) (h : zH) : zXf zT znl d 82 143 (a0 :: a1 :: .int x :: l) st h = zXf zT znl d 82 144 (a0 :: a1 :: .int x :: l) (.int x :: st) h := (zXq (op := oIl 2 144) zT_82 rfl).trans rfl
theorem q82_144 (d : Nat) (lo : zL) (x y : Int32) (st : List Value) (h : zH) : zXf zT znl d 82 144 lo (.int y :: .int x :: st) h = if x ≤ y then zXf zT znl d 82 151 lo st h else zXf zT znl d 82 147 lo st h := (zXq (op := oCLe 151 147) zT_82 rfl).trans (zB_if _ _)
theorem q82_147 (d : Nat) (lo : zL) (st : List Value) (h : zH) : zXf zT znl d 82 147 lo st h = zXf zT znl d 82 148 lo (.int (nI 1) :: st) h := (zXq (op := oPush 1 148) zT_82 rfl).trans rfl
theorem q82_148 (d : Nat) (lo : zL) (st : List Value) (h : zH) : zXf zT znl d 82 148 lo st h = zXf zT znl d 82 152 lo st h := (zXq (op := oGoto 152) zT_82 rfl).trans rfl
theorem q82_151 (d : Nat) (lo : zL) (st : List Value) (h : zH) : zXf zT znl d 82 151 lo st h = zXf zT znl d 82 152 lo (.int (nI 0) :: st) h := (zXq (op := oPush 0 152) zT_82 rfl).trans rfl
theorem q82_152 (d : Nat) (lo : zL) (x : Int32) (h : zH) : zXf zT znl d 82 152 lo [.int x] h = some (some (.int x), h) := (zXq (op := oIret) zT_82 rfl).trans rfl
theorem q82_153 (d : Nat) (a0 : Value) (x : Int32) (l : zL) (st : List Value) (h : zH) : zXf zT znl d 82 153 (a0 :: .int x :: l) st h = zXf zT znl d 82 154 (a0 :: .int x :: l) (.int x :: st) h := (zXq (op := oIl 1 154) zT_82 rfl).trans rfl
theorem q82_154 (d : Nat) (a0 : Value) (a1 : Value) (x : Int32) (l : zL) (st : List Value) (h : zH) : zXf zT znl d 82 154 (a0 :: a1 :: .int x :: l) st h = zXf zT znl d 82 155 (a0 :: a1 :: .int x :: l) (.int x :: st) h := (zXq (op := oIl 2 155) zT_82 rfl).trans rfl
theorem q82_155 (d : Nat) (lo : zL) (x y : Int32) (st : List Value) (h : zH) : zXf zT znl d 82 155 lo (.int y :: .int x :: st) h = zXf zT znl d 82 156 lo (.int (x + y) :: st) h := (zXq (op := oBin (fun x y => x + y) 156) zT_82 rfl).trans rfl
theorem q82_156 (d : Nat) (lo : zL) (x : Int32) (h : zH) : zXf zT znl d 82 156 lo [.int x] h = some (some (.int x), h) := (zXq (op := oIret) zT_82 rfl).trans rfl
theorem q82_157 (d : Nat) (a0 : Value) (x : Int32) (l : zL) (st : List Value) (h : zH) : zXf zT znl d 82 157 (a0 :: .int x :: l) st h = zXf zT znl d 82 158 (a0 :: .int x :: l) (.int x :: st) h := (zXq (op := oIl 1 158) zT_82 rfl).trans rfl
theorem q82_158 (d : Nat) (a0 : Value) (a1 : Value) (x : Int32) (l : zL) (st : List Value) (h : zH) : zXf zT znl d 82 158 (a0 :: a1 :: .int x :: l) st h = zXf zT znl d 82 159 (a0 :: a1 :: .int x :: l) (.int x :: st) h := (zXq (op := oIl 2 159) zT_82 rfl).trans rfl
theorem q82_159 (d : Nat) (lo : zL) (x y : Int32) (st : List Value) (h : zH) : zXf zT znl d 82 159 lo (.int y :: .int x :: st) h = zXf zT znl d 82 160 lo (.int (x - y) :: st) h := (zXq (op := oBin (fun x y => x - y) 160) zT_82 rfl).trans rfl
theorem q82_160 (d : Nat) (lo : zL) (x : Int32) (h : zH) : zXf zT znl d 82 160 lo [.int x] h = some (some (.int x), h) := (zXq (op := oIret) zT_82 rfl).trans rfl
theorem q82_161 (d : Nat) (a0 : Value) (x : Int32) (l : zL) (st : List Value) (h : zH) : zXf zT znl d 82 161 (a0 :: .int x :: l) st h = zXf zT znl d 82 162 (a0 :: .int x :: l) (.int x :: st) h := (zXq (op := oIl 1 162) zT_82 rfl).trans rfl
theorem q82_162 (d : Nat) (a0 : Value) (a1 : Value) (x : Int32) (l : zL) (st : List Value) (h : zH) : zXf zT znl d 82 162 (a0 :: a1 :: .int x :: l) st h = zXf zT znl d 82 163 (a0 :: a1 :: .int x :: l) (.int x :: st) h := (zXq (op := oIl 2 163) zT_82 rfl).trans rfl
theorem q82_163 (d : Nat) (lo : zL) (x y : Int32) (st : List Value) (h : zH) : zXf zT znl d 82 163 lo (.int y :: .int x :: st) h = zXf zT znl d 82 164 lo (.int (x * y) :: st) h := (zXq (op := oBin (fun x y => x * y) 164) zT_82 rfl).trans rfl
theorem q82_164 (d : Nat) (lo : zL) (x : Int32) (h : zH) : zXf zT znl d 82 164 lo [.int x] h = some (some (.int x), h) := (zXq (op := oIret) zT_82 rfl).trans rfl
theorem q82_165 (d : Nat) (a0 : Value) (a1 : Value) (x : Int32) (l : zL) (st : List Value) (h : zH) : zXf zT znl d 82 165 (a0 :: a1 :: .int x :: l) st h = zXf zT znl d 82 166 (a0 :: a1 :: .int x :: l) (.int x :: st) h := (zXq (op := oIl 2 166) zT_82 rfl).trans rfl
theorem q82_166 (d : Nat) (lo : zL) (x : Int32) (st : List Value) (h : zH) : zXf zT znl d 82 166 lo (.int x :: st) h = if x = nI 0 then zXf zT znl d 82 169 lo st h else zXf zT znl d 82 173 lo st h := (zXq (op := oNe0 173 169) zT_82 rfl).trans (zB_if _ _)
theorem q82_169 (d : Nat) (lo : zL) (st : List Value) (h : zH) : zXf zT znl d 82 169 lo st h = zXf zT znl d 82 170 lo (.int (nI 0) :: st) h := (zXq (op := oPush 0 170) zT_82 rfl).trans rfl
theorem q82_170 (d : Nat) (lo : zL) (st : List Value) (h : zH) : zXf zT znl d 82 170 lo st h = zXf zT znl d 82 176 lo st h := (zXq (op := oGoto 176) zT_82 rfl).trans rfl
theorem q82_173 (d : Nat) (a0 : Value) (x : Int32) (l : zL) (st : List Value) (h : zH) : zXf zT znl d 82 173 (a0 :: .int x :: l) st h = zXf zT znl d 82 174 (a0 :: .int x :: l) (.int x :: st) h := (zXq (op := oIl 1 174) zT_82 rfl).trans rfl
theorem q82_174 (d : Nat) (a0 : Value) (a1 : Value) (x : Int32) (l : zL) (st : List Value) (h : zH) : zXf zT znl d 82 174 (a0 :: a1 :: .int x :: l) st h = zXf zT znl d 82 175 (a0 :: a1 :: .int x :: l) (.int x :: st) h := (zXq (op := oIl 2 175) zT_82 rfl).trans rfl
theorem q82_175 (d : Nat) (lo : zL) (x y : Int32) (st : List Value) (h : zH) (hy : ¬ y = 0) : zXf zT znl d 82 175 lo (.int y :: .int x :: st) h = zXf zT znl d 82 176 lo (.int (x / y) :: st) h := by
  refine (zXq (op := oDiv 176) zT_82 rfl).trans ?_
  simp only [oDiv, if_neg hy, zB_go]
theorem q82_176 (d : Nat) (lo : zL) (x : Int32) (h : zH) : zXf zT znl d 82 176 lo [.int x] h = some (some (.int x), h) := (zXq (op := oIret) zT_82 rfl).trans rfl
theorem q82_177 (d : Nat) (a0 : Value) (a1 : Value) (x : Int32) (l : zL) (st : List Value) (h : zH) : zXf zT znl d 82 177 (a0 :: a1 :: .int x :: l) st h = zXf zT znl d 82 178 (a0 :: a1 :: .int x :: l) (.int x :: st) h := (zXq (op := oIl 2 178) zT_82 rfl).trans rfl
theorem q82_178 (d : Nat) (lo : zL) (x : Int32) (st : List Value) (h : zH) : zXf zT znl d 82 178 lo (.int x :: st) h = if x = nI 0 then zXf zT znl d 82 181 lo st h else zXf zT znl d 82 185 lo st h := (zXq (op := oNe0 185 181) zT_82 rfl).trans (zB_if _ _)
theorem q82_181 (d : Nat) (lo : zL) (st : List Value) (h : zH) : zXf zT znl d 82 181 lo st h = zXf zT znl d 82 182 lo (.int (nI 0) :: st) h := (zXq (op := oPush 0 182) zT_82 rfl).trans rfl
theorem q82_182 (d : Nat) (lo : zL) (st : List Value) (h : zH) : zXf zT znl d 82 182 lo st h = zXf zT znl d 82 188 lo st h := (zXq (op := oGoto 188) zT_82 rfl).trans rfl
theorem q82_185 (d : Nat) (a0 : Value) (x : Int32) (l : zL) (st : List Value) (h : zH) : zXf zT znl d 82 185 (a0 :: .int x :: l) st h = zXf zT znl d 82 186 (a0 :: .int x :: l) (.int x :: st) h := (zXq (op := oIl 1 186) zT_82 rfl).trans rfl
theorem q82_186 (d : Nat) (a0 : Value) (a1 : Value) (x : Int32) (l : zL) (st : List Value) (h : zH) : zXf zT znl d 82 186 (a0 :: a1 :: .int x :: l) st h = zXf zT znl d 82 187 (a0 :: a1 :: .int x :: l) (.int x :: st) h := (zXq (op := oIl 2 187) zT_82 rfl).trans rfl
theorem q82_187 (d : Nat) (lo : zL) (x y : Int32) (st : List Value) (h : zH) (hy : ¬ y = 0) : zXf zT znl d 82 187 lo (.int y :: .int x :: st) h = zXf zT znl d 82 188 lo (.int (x % y) :: st) h := by
  refine (zXq (op := oRem 188) zT_82 rfl).trans ?_
  simp only [oRem, if_neg hy, zB_go]
theorem q82_188 (d : Nat) (lo : zL) (x : Int32) (h : zH) : zXf zT znl d 82 188 lo [.int x] h = some (some (.int x), h) := (zXq (op := oIret) zT_82 rfl).trans rfl
theorem q82_189 (d : Nat) (lo : zL) (st : List Value) (h : zH) : zXf zT znl d 82 189 lo st h = zXf zT znl d 82 190 lo (.int (nI 0) :: st) h := (zXq (op := oPush 0 190) zT_82 rfl).trans rfl
theorem q82_190 (d : Nat) (lo : zL) (x : Int32) (h : zH) : zXf zT znl d 82 190 lo [.int x] h = some (some (.int x), h) := (zXq (op := oIret) zT_82 rfl).trans rfl
theorem q83_0 (d : Nat) (lo : zL) (st : List Value) (h : zH) : zXf zT znl d 83 0 lo st h = zXf zT znl d 83 1 lo (.int (nI 0) :: st) h := (zXq (op := oPush 0 1) zT_83 rfl).trans rfl
theorem q83_1 (d : Nat) (a0 : Value) (a1 : Value) (a2 : Value) (x : Int32) (l : zL) (st : List Value) (h : zH) (hz : zokv a1 = true) : zXf zT znl d 83 1 (a0 :: a1 :: a2 :: l) (.int x :: st) h = zXf zT znl d 83 2 (a0 :: a1 :: .int x :: l) st h := by
  refine (zXq (op := oIs 2 2) zT_83 rfl).trans ?_
  simp only [oIs, zok, hz, Bool.and_self, if_true, List.set_cons_succ, List.set_cons_zero, zB_go]
theorem q83_2 (d : Nat) (lo : zL) (st : List Value) (h : zH) : zXf zT znl d 83 2 lo st h = zXf zT znl d 83 3 lo (.int (nI 0) :: st) h := (zXq (op := oPush 0 3) zT_83 rfl).trans rfl
theorem q83_3 (d : Nat) (a0 : Value) (a1 : Value) (a2 : Value) (a3 : Value) (x : Int32) (l : zL) (st : List Value) (h : zH) (hz : zokv a2 = true) : zXf zT znl d 83 3 (a0 :: a1 :: a2 :: a3 :: l) (.int x :: st) h = zXf zT znl d 83 4 (a0 :: a1 :: a2 :: .int x :: l) st h := by
  refine (zXq (op := oIs 3 4) zT_83 rfl).trans ?_
  simp only [oIs, zok, hz, Bool.and_self, if_true, List.set_cons_succ, List.set_cons_zero, zB_go]
theorem q83_4 (d : Nat) (a0 : Value) (a1 : Value) (a2 : Value) (x : Int32) (l : zL) (st : List Value) (h : zH) : zXf zT znl d 83 4 (a0 :: a1 :: a2 :: .int x :: l) st h = zXf zT znl d 83 5 (a0 :: a1 :: a2 :: .int x :: l) (.int x :: st) h := (zXq (op := oIl 3 5) zT_83 rfl).trans rfl
theorem q83_5 (d : Nat) (x : Nat) (l : zL) (st : List Value) (h : zH) : zXf zT znl d 83 5 (.ref x :: l) st h = zXf zT znl d 83 6 (.ref x :: l) (.ref x :: st) h := (zXq (op := oAl 0 6) zT_83 rfl).trans rfl
theorem q83_6 (d : Nat) (lo : zL) (st : List Value) (h : zH) : zXf zT znl d 83 6 lo st h = zB zT znl d 83 (oGf 4 3 9 lo st h) := zXq (op := oGf 4 3 9) zT_83 rfl
theorem q83_9 (d : Nat) (lo : zL) (x y : Int32) (st : List Value) (h : zH) : zXf zT znl d 83 9 lo (.int y :: .int x :: st) h = if y ≤ x then zXf zT znl d 83 176 lo st h else zXf zT znl d 83 12 lo st h := (zXq (op := oCGe 176 12) zT_83 rfl).trans (zB_if _ _)
theorem q83_12 (d : Nat) (x : Nat) (l : zL) (st : List Value) (h : zH) : zXf zT znl d 83 12 (.ref x :: l) st h = zXf zT znl d 83 13 (.ref x :: l) (.ref x :: st) h := (zXq (op := oAl 0 13) zT_83 rfl).trans rfl
theorem q83_13 (d : Nat) (lo : zL) (st : List Value) (h : zH) : zXf zT znl d 83 13 lo st h = zB zT znl d 83 (oGf 4 0 16 lo st h) := zXq (op := oGf 4 0 16) zT_83 rfl
theorem q83_16 (d : Nat) (a0 : Value) (a1 : Value) (a2 : Value) (x : Int32) (l : zL) (st : List Value) (h : zH) : zXf zT znl d 83 16 (a0 :: a1 :: a2 :: .int x :: l) st h = zXf zT znl d 83 17 (a0 :: a1 :: a2 :: .int x :: l) (.int x :: st) h := (zXq (op := oIl 3 17) zT_83 rfl).trans rfl
theorem q83_17 (d : Nat) (lo : zL) (st : List Value) (h : zH) : zXf zT znl d 83 17 lo st h = zB zT znl d 83 (oIald 18 lo st h) := zXq (op := oIald 18) zT_83 rfl
theorem q83_18 (d : Nat) (a0 : Value) (a1 : Value) (a2 : Value) (a3 : Value) (a4 : Value) (x : Int32) (l : zL) (st : List Value) (h : zH) (hz : zokv a3 = true) : zXf zT znl d 83 18 (a0 :: a1 :: a2 :: a3 :: a4 :: l) (.int x :: st) h = zXf zT znl d 83 20 (a0 :: a1 :: a2 :: a3 :: .int x :: l) st h := by
  refine (zXq (op := oIs 4 20) zT_83 rfl).trans ?_
  simp only [oIs, zok, hz, Bool.and_self, if_true, List.set_cons_succ, List.set_cons_zero, zB_go]
theorem q83_20 (d : Nat) (x : Nat) (l : zL) (st : List Value) (h : zH) : zXf zT znl d 83 20 (.ref x :: l) st h = zXf zT znl d 83 21 (.ref x :: l) (.ref x :: st) h := (zXq (op := oAl 0 21) zT_83 rfl).trans rfl
theorem q83_21 (d : Nat) (lo : zL) (st : List Value) (h : zH) : zXf zT znl d 83 21 lo st h = zB zT znl d 83 (oGf 4 1 24 lo st h) := zXq (op := oGf 4 1 24) zT_83 rfl
theorem q83_24 (d : Nat) (a0 : Value) (a1 : Value) (a2 : Value) (x : Int32) (l : zL) (st : List Value) (h : zH) : zXf zT znl d 83 24 (a0 :: a1 :: a2 :: .int x :: l) st h = zXf zT znl d 83 25 (a0 :: a1 :: a2 :: .int x :: l) (.int x :: st) h := (zXq (op := oIl 3 25) zT_83 rfl).trans rfl
theorem q83_25 (d : Nat) (lo : zL) (st : List Value) (h : zH) : zXf zT znl d 83 25 lo st h = zB zT znl d 83 (oIald 26 lo st h) := zXq (op := oIald 26) zT_83 rfl
theorem q83_26 (d : Nat) (a0 : Value) (a1 : Value) (a2 : Value) (a3 : Value) (a4 : Value) (a5 : Value) (x : Int32) (l : zL) (st : List Value) (h : zH) (hz : zokv a4 = true) : zXf zT znl d 83 26 (a0 :: a1 :: a2 :: a3 :: a4 :: a5 :: l) (.int x :: st) h = zXf zT znl d 83 28 (a0 :: a1 :: a2 :: a3 :: a4 :: .int x :: l) st h := by
  refine (zXq (op := oIs 5 28) zT_83 rfl).trans ?_
  simp only [oIs, zok, hz, Bool.and_self, if_true, List.set_cons_succ, List.set_cons_zero, zB_go]
theorem q83_28 (d : Nat) (a0 : Value) (a1 : Value) (a2 : Value) (a3 : Value) (x : Int32) (l : zL) (st : List Value) (h : zH) : zXf zT znl d 83 28 (a0 :: a1 :: a2 :: a3 :: .int x :: l) st h = zXf zT znl d 83 30 (a0 :: a1 :: a2 :: a3 :: .int x :: l) (.int x :: st) h := (zXq (op := oIl 4 30) zT_83 rfl).trans rfl
theorem q83_30 (d : Nat) (lo : zL) (st : List Value) (h : zH) : zXf zT znl d 83 30 lo st h = zXf zT znl d 83 32 lo (.int (nI 110) :: st) h := (zXq (op := oPush 110 32) zT_83 rfl).trans rfl
theorem q83_32 (d : Nat) (lo : zL) (x y : Int32) (st : List Value) (h : zH) : zXf zT znl d 83 32 lo (.int y :: .int x :: st) h = if x = y then zXf zT znl d 83 35 lo st h else zXf zT znl d 83 55 lo st h := (zXq (op := oCNe 55 35) zT_83 rfl).trans (zB_if _ _)
theorem q83_35 (d : Nat) (a0 : Value) (a1 : Value) (x : Int32) (l : zL) (st : List Value) (h : zH) : zXf zT znl d 83 35 (a0 :: a1 :: .int x :: l) st h = zXf zT znl d 83 36 (a0 :: a1 :: .int x :: l) (.int x :: st) h := (zXq (op := oIl 2 36) zT_83 rfl).trans rfl
theorem q83_36 (d : Nat) (lo : zL) (st : List Value) (h : zH) : zXf zT znl d 83 36 lo st h = zXf zT znl d 83 38 lo (.int (nI 60) :: st) h := (zXq (op := oPush 60 38) zT_83 rfl).trans rfl
theorem q83_38 (d : Nat) (lo : zL) (x y : Int32) (st : List Value) (h : zH) : zXf zT znl d 83 38 lo (.int y :: .int x :: st) h = if y ≤ x then zXf zT znl d 83 55 lo st h else zXf zT znl d 83 41 lo st h := (zXq (op := oCGe 55 41) zT_83 rfl).trans (zB_if _ _)
theorem q83_41 (d : Nat) (x : Nat) (l : zL) (st : List Value) (h : zH) : zXf zT znl d 83 41 (.ref x :: l) st h = zXf zT znl d 83 42 (.ref x :: l) (.ref x :: st) h := (zXq (op := oAl 0 42) zT_83 rfl).trans rfl
theorem q83_42 (d : Nat) (lo : zL) (st : List Value) (h : zH) : zXf zT znl d 83 42 lo st h = zB zT znl d 83 (oGf 4 2 45 lo st h) := zXq (op := oGf 4 2 45) zT_83 rfl
theorem q83_45 (d : Nat) (a0 : Value) (a1 : Value) (x : Int32) (l : zL) (st : List Value) (h : zH) : zXf zT znl d 83 45 (a0 :: a1 :: .int x :: l) st h = zXf zT znl d 83 46 (a0 :: a1 :: .int x :: l) (.int x :: st) h := (zXq (op := oIl 2 46) zT_83 rfl).trans rfl
theorem q83_46 (d : Nat) (a0 : Value) (a1 : Value) (a2 : Value) (a3 : Value) (a4 : Value) (x : Int32) (l : zL) (st : List Value) (h : zH) : zXf zT znl d 83 46 (a0 :: a1 :: a2 :: a3 :: a4 :: .int x :: l) st h = zXf zT znl d 83 48 (a0 :: a1 :: a2 :: a3 :: a4 :: .int x :: l) (.int x :: st) h := (zXq (op := oIl 5 48) zT_83 rfl).trans rfl
theorem q83_48 (d : Nat) (lo : zL) (st : List Value) (h : zH) : zXf zT znl d 83 48 lo st h = zB zT znl d 83 (oIast 49 lo st h) := zXq (op := oIast 49) zT_83 rfl
theorem q83_49 (d : Nat) (a0 : Value) (a1 : Value) (x : Int32) (l : zL) (st : List Value) (h : zH) (hz : zokv a1 = true) : zXf zT znl d 83 49 (a0 :: a1 :: .int x :: l) st h = zXf zT znl d 83 52 (a0 :: a1 :: .int (x + nI 1) :: l) st h := by
  refine (zXq (op := oInc 2 1 52) zT_83 rfl).trans ?_
  simp only [oInc, List.getElem?_cons_succ, List.getElem?_cons_zero, zok, hz, Bool.and_self, if_true, List.set_cons_succ, List.set_cons_zero, zB_go]
  try rfl
theorem q83_52 (d : Nat) (lo : zL) (st : List Value) (h : zH) : zXf zT znl d 83 52 lo st h = zXf zT znl d 83 170 lo st h := (zXq (op := oGoto 170) zT_83 rfl).trans rfl
theorem q83_55 (d : Nat) (a0 : Value) (a1 : Value) (a2 : Value) (a3 : Value) (x : Int32) (l : zL) (st : List Value) (h : zH) : zXf zT znl d 83 55 (a0 :: a1 :: a2 :: a3 :: .int x :: l) st h = zXf zT znl d 83 57 (a0 :: a1 :: a2 :: a3 :: .int x :: l) (.int x :: st) h := (zXq (op := oIl 4 57) zT_83 rfl).trans rfl
theorem q83_57 (d : Nat) (lo : zL) (st : List Value) (h : zH) : zXf zT znl d 83 57 lo st h = zXf zT znl d 83 59 lo (.int (nI 97) :: st) h := (zXq (op := oPush 97 59) zT_83 rfl).trans rfl
theorem q83_59 (d : Nat) (lo : zL) (x y : Int32) (st : List Value) (h : zH) : zXf zT znl d 83 59 lo (.int y :: .int x :: st) h = if x = y then zXf zT znl d 83 62 lo st h else zXf zT znl d 83 97 lo st h := (zXq (op := oCNe 97 62) zT_83 rfl).trans (zB_if _ _)
theorem q83_62 (d : Nat) (a0 : Value) (a1 : Value) (x : Int32) (l : zL) (st : List Value) (h : zH) : zXf zT znl d 83 62 (a0 :: a1 :: .int x :: l) st h = zXf zT znl d 83 63 (a0 :: a1 :: .int x :: l) (.int x :: st) h := (zXq (op := oIl 2 63) zT_83 rfl).trans rfl
theorem q83_63 (d : Nat) (lo : zL) (st : List Value) (h : zH) : zXf zT znl d 83 63 lo st h = zXf zT znl d 83 65 lo (.int (nI 60) :: st) h := (zXq (op := oPush 60 65) zT_83 rfl).trans rfl
theorem q83_65 (d : Nat) (lo : zL) (x y : Int32) (st : List Value) (h : zH) : zXf zT znl d 83 65 lo (.int y :: .int x :: st) h = if y ≤ x then zXf zT znl d 83 97 lo st h else zXf zT znl d 83 68 lo st h := (zXq (op := oCGe 97 68) zT_83 rfl).trans (zB_if _ _)
theorem q83_68 (d : Nat) (a0 : Value) (a1 : Value) (a2 : Value) (a3 : Value) (a4 : Value) (x : Int32) (l : zL) (st : List Value) (h : zH) : zXf zT znl d 83 68 (a0 :: a1 :: a2 :: a3 :: a4 :: .int x :: l) st h = zXf zT znl d 83 70 (a0 :: a1 :: a2 :: a3 :: a4 :: .int x :: l) (.int x :: st) h := (zXq (op := oIl 5 70) zT_83 rfl).trans rfl
theorem q83_70 (d : Nat) (lo : zL) (st : List Value) (h : zH) : zXf zT znl d 83 70 lo st h = zXf zT znl d 83 71 lo (.int (nI 0) :: st) h := (zXq (op := oPush 0 71) zT_83 rfl).trans rfl
theorem q83_71 (d : Nat) (a0 : Value) (x : Nat) (l : zL) (st : List Value) (h : zH) : zXf zT znl d 83 71 (a0 :: .ref x :: l) st h = zXf zT znl d 83 72 (a0 :: .ref x :: l) (.ref x :: st) h := (zXq (op := oAl 1 72) zT_83 rfl).trans rfl
theorem q83_72 (d : Nat) (lo : zL) (st : List Value) (h : zH) : zXf zT znl d 83 72 lo st h = zB zT znl d 83 (oAlen 73 lo st h) := zXq (op := oAlen 73) zT_83 rfl
theorem q83_73 (d : Nat) (lo : zL) (st : List Value) (h : zH) : zXf zT znl d 83 73 lo st h = zXf zT znl d 83 74 lo (.int (nI 1) :: st) h := (zXq (op := oPush 1 74) zT_83 rfl).trans rfl
theorem q83_74 (d : Nat) (lo : zL) (x y : Int32) (st : List Value) (h : zH) : zXf zT znl d 83 74 lo (.int y :: .int x :: st) h = zXf zT znl d 83 75 lo (.int (x - y) :: st) h := (zXq (op := oBin (fun x y => x - y) 75) zT_83 rfl).trans rfl
theorem q83_75 (d : Nat) (lo : zL) (x0 x1 x2 : Value) (h : zH) : zXf zT znl d 83 75 lo [x2, x1, x0] h = (zCf zT znl d 0 [x0, x1, x2] h).bind fun o => zXf zT znl d 83 78 lo (o.1.toList ++ []) o.2 := (zXq (op := oC3 98 0 78) zT_83 rfl).trans (zB_cl rfl rfl)
theorem q83_78 (d : Nat) (lo : zL) (x : Int32) (st : List Value) (h : zH) : zXf zT znl d 83 78 lo (.int x :: st) h = if x = nI 0 then zXf zT znl d 83 97 lo st h else zXf zT znl d 83 81 lo st h := (zXq (op := oEq0 97 81) zT_83 rfl).trans (zB_if _ _)
theorem q83_81 (d : Nat) (x : Nat) (l : zL) (st : List Value) (h : zH) : zXf zT znl d 83 81 (.ref x :: l) st h = zXf zT znl d 83 82 (.ref x :: l) (.ref x :: st) h := (zXq (op := oAl 0 82) zT_83 rfl).trans rfl
theorem q83_82 (d : Nat) (lo : zL) (st : List Value) (h : zH) : zXf zT znl d 83 82 lo st h = zB zT znl d 83 (oGf 4 2 85 lo st h) := zXq (op := oGf 4 2 85) zT_83 rfl
theorem q83_85 (d : Nat) (a0 : Value) (a1 : Value) (x : Int32) (l : zL) (st : List Value) (h : zH) : zXf zT znl d 83 85 (a0 :: a1 :: .int x :: l) st h = zXf zT znl d 83 86 (a0 :: a1 :: .int x :: l) (.int x :: st) h := (zXq (op := oIl 2 86) zT_83 rfl).trans rfl
theorem q83_86 (d : Nat) (a0 : Value) (x : Nat) (l : zL) (st : List Value) (h : zH) : zXf zT znl d 83 86 (a0 :: .ref x :: l) st h = zXf zT znl d 83 87 (a0 :: .ref x :: l) (.ref x :: st) h := (zXq (op := oAl 1 87) zT_83 rfl).trans rfl
theorem q83_87 (d : Nat) (a0 : Value) (a1 : Value) (a2 : Value) (a3 : Value) (a4 : Value) (x : Int32) (l : zL) (st : List Value) (h : zH) : zXf zT znl d 83 87 (a0 :: a1 :: a2 :: a3 :: a4 :: .int x :: l) st h = zXf zT znl d 83 89 (a0 :: a1 :: a2 :: a3 :: a4 :: .int x :: l) (.int x :: st) h := (zXq (op := oIl 5 89) zT_83 rfl).trans rfl
theorem q83_89 (d : Nat) (lo : zL) (st : List Value) (h : zH) : zXf zT znl d 83 89 lo st h = zB zT znl d 83 (oIald 90 lo st h) := zXq (op := oIald 90) zT_83 rfl
theorem q83_90 (d : Nat) (lo : zL) (st : List Value) (h : zH) : zXf zT znl d 83 90 lo st h = zB zT znl d 83 (oIast 91 lo st h) := zXq (op := oIast 91) zT_83 rfl
theorem q83_91 (d : Nat) (a0 : Value) (a1 : Value) (x : Int32) (l : zL) (st : List Value) (h : zH) (hz : zokv a1 = true) : zXf zT znl d 83 91 (a0 :: a1 :: .int x :: l) st h = zXf zT znl d 83 94 (a0 :: a1 :: .int (x + nI 1) :: l) st h := by
  refine (zXq (op := oInc 2 1 94) zT_83 rfl).trans ?_
  simp only [oInc, List.getElem?_cons_succ, List.getElem?_cons_zero, zok, hz, Bool.and_self, if_true, List.set_cons_succ, List.set_cons_zero, zB_go]
  try rfl
theorem q83_94 (d : Nat) (lo : zL) (st : List Value) (h : zH) : zXf zT znl d 83 94 lo st h = zXf zT znl d 83 170 lo st h := (zXq (op := oGoto 170) zT_83 rfl).trans rfl
theorem q83_97 (d : Nat) (a0 : Value) (a1 : Value) (a2 : Value) (a3 : Value) (x : Int32) (l : zL) (st : List Value) (h : zH) : zXf zT znl d 83 97 (a0 :: a1 :: a2 :: a3 :: .int x :: l) st h = zXf zT znl d 83 99 (a0 :: a1 :: a2 :: a3 :: .int x :: l) (.int x :: st) h := (zXq (op := oIl 4 99) zT_83 rfl).trans rfl
theorem q83_99 (d : Nat) (lo : zL) (st : List Value) (h : zH) : zXf zT znl d 83 99 lo st h = zXf zT znl d 83 101 lo (.int (nI 33) :: st) h := (zXq (op := oPush 33 101) zT_83 rfl).trans rfl
theorem q83_101 (d : Nat) (lo : zL) (x y : Int32) (st : List Value) (h : zH) : zXf zT znl d 83 101 lo (.int y :: .int x :: st) h = if x = y then zXf zT znl d 83 104 lo st h else zXf zT znl d 83 135 lo st h := (zXq (op := oCNe 135 104) zT_83 rfl).trans (zB_if _ _)
theorem q83_104 (d : Nat) (a0 : Value) (a1 : Value) (x : Int32) (l : zL) (st : List Value) (h : zH) : zXf zT znl d 83 104 (a0 :: a1 :: .int x :: l) st h = zXf zT znl d 83 105 (a0 :: a1 :: .int x :: l) (.int x :: st) h := (zXq (op := oIl 2 105) zT_83 rfl).trans rfl
theorem q83_105 (d : Nat) (lo : zL) (x : Int32) (st : List Value) (h : zH) : zXf zT znl d 83 105 lo (.int x :: st) h = if x ≤ nI 0 then zXf zT znl d 83 135 lo st h else zXf zT znl d 83 108 lo st h := (zXq (op := oLe0 135 108) zT_83 rfl).trans (zB_if _ _)
theorem q83_108 (d : Nat) (x : Nat) (l : zL) (st : List Value) (h : zH) : zXf zT znl d 83 108 (.ref x :: l) st h = zXf zT znl d 83 109 (.ref x :: l) (.ref x :: st) h := (zXq (op := oAl 0 109) zT_83 rfl).trans rfl
theorem q83_109 (d : Nat) (lo : zL) (st : List Value) (h : zH) : zXf zT znl d 83 109 lo st h = zB zT znl d 83 (oGf 4 2 112 lo st h) := zXq (op := oGf 4 2 112) zT_83 rfl
theorem q83_112 (d : Nat) (a0 : Value) (a1 : Value) (x : Int32) (l : zL) (st : List Value) (h : zH) : zXf zT znl d 83 112 (a0 :: a1 :: .int x :: l) st h = zXf zT znl d 83 113 (a0 :: a1 :: .int x :: l) (.int x :: st) h := (zXq (op := oIl 2 113) zT_83 rfl).trans rfl
theorem q83_113 (d : Nat) (lo : zL) (st : List Value) (h : zH) : zXf zT znl d 83 113 lo st h = zXf zT znl d 83 114 lo (.int (nI 1) :: st) h := (zXq (op := oPush 1 114) zT_83 rfl).trans rfl
theorem q83_114 (d : Nat) (lo : zL) (x y : Int32) (st : List Value) (h : zH) : zXf zT znl d 83 114 lo (.int y :: .int x :: st) h = zXf zT znl d 83 115 lo (.int (x - y) :: st) h := (zXq (op := oBin (fun x y => x - y) 115) zT_83 rfl).trans rfl
theorem q83_115 (d : Nat) (x : Nat) (l : zL) (st : List Value) (h : zH) : zXf zT znl d 83 115 (.ref x :: l) st h = zXf zT znl d 83 116 (.ref x :: l) (.ref x :: st) h := (zXq (op := oAl 0 116) zT_83 rfl).trans rfl
theorem q83_116 (d : Nat) (lo : zL) (st : List Value) (h : zH) : zXf zT znl d 83 116 lo st h = zB zT znl d 83 (oGf 4 2 119 lo st h) := zXq (op := oGf 4 2 119) zT_83 rfl
theorem q83_119 (d : Nat) (a0 : Value) (a1 : Value) (x : Int32) (l : zL) (st : List Value) (h : zH) : zXf zT znl d 83 119 (a0 :: a1 :: .int x :: l) st h = zXf zT znl d 83 120 (a0 :: a1 :: .int x :: l) (.int x :: st) h := (zXq (op := oIl 2 120) zT_83 rfl).trans rfl
theorem q83_120 (d : Nat) (lo : zL) (st : List Value) (h : zH) : zXf zT znl d 83 120 lo st h = zXf zT znl d 83 121 lo (.int (nI 1) :: st) h := (zXq (op := oPush 1 121) zT_83 rfl).trans rfl
theorem q83_121 (d : Nat) (lo : zL) (x y : Int32) (st : List Value) (h : zH) : zXf zT znl d 83 121 lo (.int y :: .int x :: st) h = zXf zT znl d 83 122 lo (.int (x - y) :: st) h := (zXq (op := oBin (fun x y => x - y) 122) zT_83 rfl).trans rfl
theorem q83_122 (d : Nat) (lo : zL) (st : List Value) (h : zH) : zXf zT znl d 83 122 lo st h = zB zT znl d 83 (oIald 123 lo st h) := zXq (op := oIald 123) zT_83 rfl
theorem q83_123 (d : Nat) (lo : zL) (x : Int32) (st : List Value) (h : zH) : zXf zT znl d 83 123 lo (.int x :: st) h = if x = nI 0 then zXf zT znl d 83 126 lo st h else zXf zT znl d 83 130 lo st h := (zXq (op := oNe0 130 126) zT_83 rfl).trans (zB_if _ _)
theorem q83_126 (d : Nat) (lo : zL) (st : List Value) (h : zH) : zXf zT znl d 83 126 lo st h = zXf zT znl d 83 127 lo (.int (nI 1) :: st) h := (zXq (op := oPush 1 127) zT_83 rfl).trans rfl
theorem q83_127 (d : Nat) (lo : zL) (st : List Value) (h : zH) : zXf zT znl d 83 127 lo st h = zXf zT znl d 83 131 lo st h := (zXq (op := oGoto 131) zT_83 rfl).trans rfl
theorem q83_130 (d : Nat) (lo : zL) (st : List Value) (h : zH) : zXf zT znl d 83 130 lo st h = zXf zT znl d 83 131 lo (.int (nI 0) :: st) h := (zXq (op := oPush 0 131) zT_83 rfl).trans rfl
theorem q83_131 (d : Nat) (lo : zL) (st : List Value) (h : zH) : zXf zT znl d 83 131 lo st h = zB zT znl d 83 (oIast 132 lo st h) := zXq (op := oIast 132) zT_83 rfl
theorem q83_132 (d : Nat) (lo : zL) (st : List Value) (h : zH) : zXf zT znl d 83 132 lo st h = zXf zT znl d 83 170 lo st h := (zXq (op := oGoto 170) zT_83 rfl).trans rfl
theorem q83_135 (d : Nat) (a0 : Value) (a1 : Value) (x : Int32) (l : zL) (st : List Value) (h : zH) : zXf zT znl d 83 135 (a0 :: a1 :: .int x :: l) st h = zXf zT znl d 83 136 (a0 :: a1 :: .int x :: l) (.int x :: st) h := (zXq (op := oIl 2 136) zT_83 rfl).trans rfl
theorem q83_136 (d : Nat) (lo : zL) (st : List Value) (h : zH) : zXf zT znl d 83 136 lo st h = zXf zT znl d 83 137 lo (.int (nI 1) :: st) h := (zXq (op := oPush 1 137) zT_83 rfl).trans rfl
theorem q83_137 (d : Nat) (lo : zL) (x y : Int32) (st : List Value) (h : zH) : zXf zT znl d 83 137 lo (.int y :: .int x :: st) h = if x ≤ y then zXf zT znl d 83 170 lo st h else zXf zT znl d 83 140 lo st h := (zXq (op := oCLe 170 140) zT_83 rfl).trans (zB_if _ _)
theorem q83_140 (d : Nat) (a0 : Value) (a1 : Value) (x : Int32) (l : zL) (st : List Value) (h : zH) (hz : zokv a1 = true) : zXf zT znl d 83 140 (a0 :: a1 :: .int x :: l) st h = zXf zT znl d 83 143 (a0 :: a1 :: .int (x + (-1)) :: l) st h := by
  refine (zXq (op := oInc 2 (-1) 143) zT_83 rfl).trans ?_
  simp only [oInc, List.getElem?_cons_succ, List.getElem?_cons_zero, zok, hz, Bool.and_self, if_true, List.set_cons_succ, List.set_cons_zero, zB_go]
  try rfl
theorem q83_143 (d : Nat) (x : Nat) (l : zL) (st : List Value) (h : zH) : zXf zT znl d 83 143 (.ref x :: l) st h = zXf zT znl d 83 144 (.ref x :: l) (.ref x :: st) h := (zXq (op := oAl 0 144) zT_83 rfl).trans rfl
theorem q83_144 (d : Nat) (lo : zL) (st : List Value) (h : zH) : zXf zT znl d 83 144 lo st h = zB zT znl d 83 (oGf 4 2 147 lo st h) := zXq (op := oGf 4 2 147) zT_83 rfl
theorem q83_147 (d : Nat) (a0 : Value) (a1 : Value) (x : Int32) (l : zL) (st : List Value) (h : zH) : zXf zT znl d 83 147 (a0 :: a1 :: .int x :: l) st h = zXf zT znl d 83 148 (a0 :: a1 :: .int x :: l) (.int x :: st) h := (zXq (op := oIl 2 148) zT_83 rfl).trans rfl
theorem q83_148 (d : Nat) (lo : zL) (st : List Value) (h : zH) : zXf zT znl d 83 148 lo st h = zXf zT znl d 83 149 lo (.int (nI 1) :: st) h := (zXq (op := oPush 1 149) zT_83 rfl).trans rfl
theorem q83_149 (d : Nat) (lo : zL) (x y : Int32) (st : List Value) (h : zH) : zXf zT znl d 83 149 lo (.int y :: .int x :: st) h = zXf zT znl d 83 150 lo (.int (x - y) :: st) h := (zXq (op := oBin (fun x y => x - y) 150) zT_83 rfl).trans rfl
theorem q83_150 (d : Nat) (a0 : Value) (a1 : Value) (a2 : Value) (a3 : Value) (x : Int32) (l : zL) (st : List Value) (h : zH) : zXf zT znl d 83 150 (a0 :: a1 :: a2 :: a3 :: .int x :: l) st h = zXf zT znl d 83 152 (a0 :: a1 :: a2 :: a3 :: .int x :: l) (.int x :: st) h := (zXq (op := oIl 4 152) zT_83 rfl).trans rfl
theorem q83_152 (d : Nat) (x : Nat) (l : zL) (st : List Value) (h : zH) : zXf zT znl d 83 152 (.ref x :: l) st h = zXf zT znl d 83 153 (.ref x :: l) (.ref x :: st) h := (zXq (op := oAl 0 153) zT_83 rfl).trans rfl
theorem q83_153 (d : Nat) (lo : zL) (st : List Value) (h : zH) : zXf zT znl d 83 153 lo st h = zB zT znl d 83 (oGf 4 2 156 lo st h) := zXq (op := oGf 4 2 156) zT_83 rfl
theorem q83_156 (d : Nat) (a0 : Value) (a1 : Value) (x : Int32) (l : zL) (st : List Value) (h : zH) : zXf zT znl d 83 156 (a0 :: a1 :: .int x :: l) st h = zXf zT znl d 83 157 (a0 :: a1 :: .int x :: l) (.int x :: st) h := (zXq (op := oIl 2 157) zT_83 rfl).trans rfl
theorem q83_157 (d : Nat) (lo : zL) (st : List Value) (h : zH) : zXf zT znl d 83 157 lo st h = zXf zT znl d 83 158 lo (.int (nI 1) :: st) h := (zXq (op := oPush 1 158) zT_83 rfl).trans rfl
theorem q83_158 (d : Nat) (lo : zL) (x y : Int32) (st : List Value) (h : zH) : zXf zT znl d 83 158 lo (.int y :: .int x :: st) h = zXf zT znl d 83 159 lo (.int (x - y) :: st) h := (zXq (op := oBin (fun x y => x - y) 159) zT_83 rfl).trans rfl
theorem q83_159 (d : Nat) (lo : zL) (st : List Value) (h : zH) : zXf zT znl d 83 159 lo st h = zB zT znl d 83 (oIald 160 lo st h) := zXq (op := oIald 160) zT_83 rfl
theorem q83_160 (d : Nat) (x : Nat) (l : zL) (st : List Value) (h : zH) : zXf zT znl d 83 160 (.ref x :: l) st h = zXf zT znl d 83 161 (.ref x :: l) (.ref x :: st) h := (zXq (op := oAl 0 161) zT_83 rfl).trans rfl
theorem q83_161 (d : Nat) (lo : zL) (st : List Value) (h : zH) : zXf zT znl d 83 161 lo st h = zB zT znl d 83 (oGf 4 2 164 lo st h) := zXq (op := oGf 4 2 164) zT_83 rfl
theorem q83_164 (d : Nat) (a0 : Value) (a1 : Value) (x : Int32) (l : zL) (st : List Value) (h : zH) : zXf zT znl d 83 164 (a0 :: a1 :: .int x :: l) st h = zXf zT znl d 83 165 (a0 :: a1 :: .int x :: l) (.int x :: st) h := (zXq (op := oIl 2 165) zT_83 rfl).trans rfl
theorem q83_165 (d : Nat) (lo : zL) (st : List Value) (h : zH) : zXf zT znl d 83 165 lo st h = zB zT znl d 83 (oIald 166 lo st h) := zXq (op := oIald 166) zT_83 rfl
theorem q83_166 (d : Nat) (lo : zL) (x0 x1 x2 s0 s1 : Value) (h : zH) : zXf zT znl d 83 166 lo [x2, x1, x0, s0, s1] h = (zCf zT znl d 82 [x0, x1, x2] h).bind fun o => zXf zT znl d 83 169 lo (o.1.toList ++ [s0, s1]) o.2 := (zXq (op := oC3 98 82 169) zT_83 rfl).trans (zB_cl rfl rfl)
theorem q83_169 (d : Nat) (lo : zL) (st : List Value) (h : zH) : zXf zT znl d 83 169 lo st h = zB zT znl d 83 (oIast 170 lo st h) := zXq (op := oIast 170) zT_83 rfl
theorem q83_170 (d : Nat) (a0 : Value) (a1 : Value) (a2 : Value) (x : Int32) (l : zL) (st : List Value) (h : zH) (hz : zokv a2 = true) : zXf zT znl d 83 170 (a0 :: a1 :: a2 :: .int x :: l) st h = zXf zT znl d 83 173 (a0 :: a1 :: a2 :: .int (x + nI 1) :: l) st h := by
  refine (zXq (op := oInc 3 1 173) zT_83 rfl).trans ?_
  simp only [oInc, List.getElem?_cons_succ, List.getElem?_cons_zero, zok, hz, Bool.and_self, if_true, List.set_cons_succ, List.set_cons_zero, zB_go]
  try rfl
theorem q83_173 (d : Nat) (lo : zL) (st : List Value) (h : zH) : zXf zT znl d 83 173 lo st h = zXf zT znl d 83 4 lo st h := (zXq (op := oGoto 4) zT_83 rfl).trans rfl
theorem q83_176 (d : Nat) (a0 : Value) (a1 : Value) (x : Int32) (l : zL) (st : List Value) (h : zH) : zXf zT znl d 83 176 (a0 :: a1 :: .int x :: l) st h = zXf zT znl d 83 177 (a0 :: a1 :: .int x :: l) (.int x :: st) h := (zXq (op := oIl 2 177) zT_83 rfl).trans rfl
theorem q83_177 (d : Nat) (lo : zL) (x : Int32) (st : List Value) (h : zH) : zXf zT znl d 83 177 lo (.int x :: st) h = if x ≤ nI 0 then zXf zT znl d 83 191 lo st h else zXf zT znl d 83 180 lo st h := (zXq (op := oLe0 191 180) zT_83 rfl).trans (zB_if _ _)
theorem q83_180 (d : Nat) (x : Nat) (l : zL) (st : List Value) (h : zH) : zXf zT znl d 83 180 (.ref x :: l) st h = zXf zT znl d 83 181 (.ref x :: l) (.ref x :: st) h := (zXq (op := oAl 0 181) zT_83 rfl).trans rfl
theorem q83_181 (d : Nat) (lo : zL) (st : List Value) (h : zH) : zXf zT znl d 83 181 lo st h = zB zT znl d 83 (oGf 4 2 184 lo st h) := zXq (op := oGf 4 2 184) zT_83 rfl
theorem q83_184 (d : Nat) (a0 : Value) (a1 : Value) (x : Int32) (l : zL) (st : List Value) (h : zH) : zXf zT znl d 83 184 (a0 :: a1 :: .int x :: l) st h = zXf zT znl d 83 185 (a0 :: a1 :: .int x :: l) (.int x :: st) h := (zXq (op := oIl 2 185) zT_83 rfl).trans rfl
theorem q83_185 (d : Nat) (lo : zL) (st : List Value) (h : zH) : zXf zT znl d 83 185 lo st h = zXf zT znl d 83 186 lo (.int (nI 1) :: st) h := (zXq (op := oPush 1 186) zT_83 rfl).trans rfl
theorem q83_186 (d : Nat) (lo : zL) (x y : Int32) (st : List Value) (h : zH) : zXf zT znl d 83 186 lo (.int y :: .int x :: st) h = zXf zT znl d 83 187 lo (.int (x - y) :: st) h := (zXq (op := oBin (fun x y => x - y) 187) zT_83 rfl).trans rfl
theorem q83_187 (d : Nat) (lo : zL) (st : List Value) (h : zH) : zXf zT znl d 83 187 lo st h = zB zT znl d 83 (oIald 188 lo st h) := zXq (op := oIald 188) zT_83 rfl
theorem q83_188 (d : Nat) (lo : zL) (st : List Value) (h : zH) : zXf zT znl d 83 188 lo st h = zXf zT znl d 83 192 lo st h := (zXq (op := oGoto 192) zT_83 rfl).trans rfl
theorem q83_191 (d : Nat) (lo : zL) (st : List Value) (h : zH) : zXf zT znl d 83 191 lo st h = zXf zT znl d 83 192 lo (.int (nI 0) :: st) h := (zXq (op := oPush 0 192) zT_83 rfl).trans rfl
theorem q83_192 (d : Nat) (lo : zL) (x : Int32) (h : zH) : zXf zT znl d 83 192 lo [.int x] h = some (some (.int x), h) := (zXq (op := oIret) zT_83 rfl).trans rfl
theorem q84_0 (d : Nat) (x : Int32) (l : zL) (st : List Value) (h : zH) : zXf zT znl d 84 0 (.int x :: l) st h = zXf zT znl d 84 1 (.int x :: l) (.int x :: st) h := (zXq (op := oIl 0 1) zT_84 rfl).trans rfl
theorem q84_1 (d : Nat) (lo : zL) (x : Int32) (st : List Value) (h : zH) : zXf zT znl d 84 1 lo (.int x :: st) h = if x = nI 0 then zXf zT znl d 84 32 lo st h else (if x = nI 1 then zXf zT znl d 84 35 lo st h else (if x = nI 2 then zXf zT znl d 84 38 lo st h else (if x = nI 3 then zXf zT znl d 84 41 lo st h else (zXf zT znl d 84 44 lo st h)))) := by
  refine (zXq (op := oSw [(0, 32), (1, 35), (2, 38), (3, 41)] 44) zT_84 rfl).trans ?_
  simp only [oSw, zsw, zB_if, zB_go]
  try rfl
theorem q84_32 (d : Nat) (lo : zL) (st : List Value) (h : zH) : zXf zT znl d 84 32 lo st h = zXf zT znl d 84 34 lo (.ref 322 :: st) h := (zXq (op := oRefC 322 34) zT_84 rfl).trans rfl
theorem q84_34 (d : Nat) (lo : zL) (x : Nat) (h : zH) : zXf zT znl d 84 34 lo [.ref x] h = some (some (.ref x), h) := (zXq (op := oAret) zT_84 rfl).trans rfl
theorem q84_35 (d : Nat) (lo : zL) (st : List Value) (h : zH) : zXf zT znl d 84 35 lo st h = zXf zT znl d 84 37 lo (.ref 324 :: st) h := (zXq (op := oRefC 324 37) zT_84 rfl).trans rfl
theorem q84_37 (d : Nat) (lo : zL) (x : Nat) (h : zH) : zXf zT znl d 84 37 lo [.ref x] h = some (some (.ref x), h) := (zXq (op := oAret) zT_84 rfl).trans rfl
theorem q84_38 (d : Nat) (lo : zL) (st : List Value) (h : zH) : zXf zT znl d 84 38 lo st h = zXf zT znl d 84 40 lo (.ref 326 :: st) h := (zXq (op := oRefC 326 40) zT_84 rfl).trans rfl
theorem q84_40 (d : Nat) (lo : zL) (x : Nat) (h : zH) : zXf zT znl d 84 40 lo [.ref x] h = some (some (.ref x), h) := (zXq (op := oAret) zT_84 rfl).trans rfl
theorem q84_41 (d : Nat) (lo : zL) (st : List Value) (h : zH) : zXf zT znl d 84 41 lo st h = zXf zT znl d 84 43 lo (.ref 328 :: st) h := (zXq (op := oRefC 328 43) zT_84 rfl).trans rfl
theorem q84_43 (d : Nat) (lo : zL) (x : Nat) (h : zH) : zXf zT znl d 84 43 lo [.ref x] h = some (some (.ref x), h) := (zXq (op := oAret) zT_84 rfl).trans rfl
theorem q84_44 (d : Nat) (lo : zL) (st : List Value) (h : zH) : zXf zT znl d 84 44 lo st h = zXf zT znl d 84 46 lo (.ref 330 :: st) h := (zXq (op := oRefC 330 46) zT_84 rfl).trans rfl
theorem q84_46 (d : Nat) (lo : zL) (x : Nat) (h : zH) : zXf zT znl d 84 46 lo [.ref x] h = some (some (.ref x), h) := (zXq (op := oAret) zT_84 rfl).trans rfl
theorem q85_0 (d : Nat) (x : Nat) (l : zL) (st : List Value) (h : zH) : zXf zT znl d 85 0 (.ref x :: l) st h = zXf zT znl d 85 1 (.ref x :: l) (.ref x :: st) h := (zXq (op := oAl 0 1) zT_85 rfl).trans rfl
theorem q85_1 (d : Nat) (lo : zL) (st : List Value) (h : zH) : zXf zT znl d 85 1 lo st h = zB zT znl d 85 (oGf 0 4 4 lo st h) := zXq (op := oGf 0 4 4) zT_85 rfl
theorem q85_4 (d : Nat) (lo : zL) (x : Int32) (st : List Value) (h : zH) : zXf zT znl d 85 4 lo (.int x :: st) h = if nI 0 ≤ x then zXf zT znl d 85 30 lo st h else zXf zT znl d 85 7 lo st h := (zXq (op := oGe0 30 7) zT_85 rfl).trans (zB_if _ _)
theorem q85_7 (d : Nat) (x : Nat) (l : zL) (st : List Value) (h : zH) : zXf zT znl d 85 7 (.ref x :: l) st h = zXf zT znl d 85 8 (.ref x :: l) (.ref x :: st) h := (zXq (op := oAl 0 8) zT_85 rfl).trans rfl
theorem q85_8 (d : Nat) (lo : zL) (st : List Value) (h : zH) : zXf zT znl d 85 8 lo st h = zB zT znl d 85 (oGf 0 3 11 lo st h) := zXq (op := oGf 0 3 11) zT_85 rfl
theorem q85_11 (d : Nat) (x : Nat) (l : zL) (st : List Value) (h : zH) : zXf zT znl d 85 11 (.ref x :: l) st h = zXf zT znl d 85 12 (.ref x :: l) (.ref x :: st) h := (zXq (op := oAl 0 12) zT_85 rfl).trans rfl
theorem q85_12 (d : Nat) (lo : zL) (st : List Value) (h : zH) : zXf zT znl d 85 12 lo st h = zB zT znl d 85 (oGf 0 2 15 lo st h) := zXq (op := oGf 0 2 15) zT_85 rfl
theorem q85_15 (d : Nat) (lo : zL) (x y : Int32) (st : List Value) (h : zH) : zXf zT znl d 85 15 lo (.int y :: .int x :: st) h = if y ≤ x then zXf zT znl d 85 30 lo st h else zXf zT znl d 85 18 lo st h := (zXq (op := oCGe 30 18) zT_85 rfl).trans (zB_if _ _)
theorem q85_18 (d : Nat) (x : Nat) (l : zL) (st : List Value) (h : zH) : zXf zT znl d 85 18 (.ref x :: l) st h = zXf zT znl d 85 19 (.ref x :: l) (.ref x :: st) h := (zXq (op := oAl 0 19) zT_85 rfl).trans rfl
theorem q85_19 (d : Nat) (lo : zL) (st : List Value) (h : zH) : zXf zT znl d 85 19 lo st h = zB zT znl d 85 (oGf 0 1 22 lo st h) := zXq (op := oGf 0 1 22) zT_85 rfl
theorem q85_22 (d : Nat) (x : Nat) (l : zL) (st : List Value) (h : zH) : zXf zT znl d 85 22 (.ref x :: l) st h = zXf zT znl d 85 23 (.ref x :: l) (.ref x :: st) h := (zXq (op := oAl 0 23) zT_85 rfl).trans rfl
theorem q85_23 (d : Nat) (lo : zL) (st : List Value) (h : zH) : zXf zT znl d 85 23 lo st h = zB zT znl d 85 (oGf 0 3 26 lo st h) := zXq (op := oGf 0 3 26) zT_85 rfl
theorem q85_26 (d : Nat) (lo : zL) (st : List Value) (h : zH) : zXf zT znl d 85 26 lo st h = zB zT znl d 85 (oIald 27 lo st h) := zXq (op := oIald 27) zT_85 rfl
theorem q85_27 (d : Nat) (lo : zL) (st : List Value) (h : zH) : zXf zT znl d 85 27 lo st h = zXf zT znl d 85 31 lo st h := (zXq (op := oGoto 31) zT_85 rfl).trans rfl
theorem q85_30 (d : Nat) (lo : zL) (st : List Value) (h : zH) : zXf zT znl d 85 30 lo st h = zXf zT znl d 85 31 lo (.int ((-1)) :: st) h := (zXq (op := oPush (-1) 31) zT_85 rfl).trans rfl
theorem q85_31 (d : Nat) (lo : zL) (x : Int32) (h : zH) : zXf zT znl d 85 31 lo [.int x] h = some (some (.int x), h) := (zXq (op := oIret) zT_85 rfl).trans rfl
theorem q86_0 (d : Nat) (x : Nat) (l : zL) (st : List Value) (h : zH) : zXf zT znl d 86 0 (.ref x :: l) st h = zXf zT znl d 86 1 (.ref x :: l) (.ref x :: st) h := (zXq (op := oAl 0 1) zT_86 rfl).trans rfl
theorem q86_1 (d : Nat) (lo : zL) (x0 : Value) (h : zH) (hr : zrc 0 [x0] = true) : zXf zT znl d 86 1 lo [x0] h = (zCf zT znl d 85 [x0] h).bind fun o => zXf zT znl d 86 4 lo (o.1.toList ++ []) o.2 := (zXq (op := oC1 0 85 4) zT_86 rfl).trans (zB_cl rfl hr)
theorem q86_4 (d : Nat) (a0 : Value) (a1 : Value) (a2 : Value) (x : Int32) (l : zL) (st : List Value) (h : zH) (hz : zokv a1 = true) : zXf zT znl d 86 4 (a0 :: a1 :: a2 :: l) (.int x :: st) h = zXf zT znl d 86 5 (a0 :: a1 :: .int x :: l) st h := by
  refine (zXq (op := oIs 2 5) zT_86 rfl).trans ?_
  simp only [oIs, zok, hz, Bool.and_self, if_true, List.set_cons_succ, List.set_cons_zero, zB_go]
theorem q86_5 (d : Nat) (a0 : Value) (a1 : Value) (x : Int32) (l : zL) (st : List Value) (h : zH) : zXf zT znl d 86 5 (a0 :: a1 :: .int x :: l) st h = zXf zT znl d 86 6 (a0 :: a1 :: .int x :: l) (.int x :: st) h := (zXq (op := oIl 2 6) zT_86 rfl).trans rfl
theorem q86_6 (d : Nat) (lo : zL) (x : Int32) (st : List Value) (h : zH) : zXf zT znl d 86 6 lo (.int x :: st) h = if x < nI 0 then zXf zT znl d 86 22 lo st h else zXf zT znl d 86 9 lo st h := (zXq (op := oLt0 22 9) zT_86 rfl).trans (zB_if _ _)
theorem q86_9 (d : Nat) (a0 : Value) (x : Nat) (l : zL) (st : List Value) (h : zH) : zXf zT znl d 86 9 (a0 :: .ref x :: l) st h = zXf zT znl d 86 10 (a0 :: .ref x :: l) (.ref x :: st) h := (zXq (op := oAl 1 10) zT_86 rfl).trans rfl
theorem q86_10 (d : Nat) (a0 : Value) (a1 : Value) (x : Int32) (l : zL) (st : List Value) (h : zH) : zXf zT znl d 86 10 (a0 :: a1 :: .int x :: l) st h = zXf zT znl d 86 11 (a0 :: a1 :: .int x :: l) (.int x :: st) h := (zXq (op := oIl 2 11) zT_86 rfl).trans rfl
theorem q86_11 (d : Nat) (lo : zL) (x : Int32) (st : List Value) (h : zH) : zXf zT znl d 86 11 lo (.int x :: st) h = zXf zT znl d 86 12 lo (.int ((x.toUInt32 % 65536).toInt32) :: st) h := (zXq (op := oUn (fun x => (x.toUInt32 % 65536).toInt32) 12) zT_86 rfl).trans rfl
theorem q86_12 (d : Nat) (lo : zL) (x0 x1 : Value) (h : zH) (hr : zrc 99 [x0, x1] = true) : zXf zT znl d 86 12 lo [x1, x0] h = (zCf zT znl d 211 [x0, x1] h).bind fun o => zXf zT znl d 86 15 lo (o.1.toList ++ []) o.2 := (zXq (op := oC2 99 211 15) zT_86 rfl).trans (zB_cl rfl hr)
theorem q86_15 (d : Nat) (lo : zL) (x : Int32) (st : List Value) (h : zH) : zXf zT znl d 86 15 lo (.int x :: st) h = if x < nI 0 then zXf zT znl d 86 22 lo st h else zXf zT znl d 86 18 lo st h := (zXq (op := oLt0 22 18) zT_86 rfl).trans (zB_if _ _)
theorem q86_18 (d : Nat) (lo : zL) (st : List Value) (h : zH) : zXf zT znl d 86 18 lo st h = zXf zT znl d 86 19 lo (.int (nI 1) :: st) h := (zXq (op := oPush 1 19) zT_86 rfl).trans rfl
theorem q86_19 (d : Nat) (lo : zL) (st : List Value) (h : zH) : zXf zT znl d 86 19 lo st h = zXf zT znl d 86 23 lo st h := (zXq (op := oGoto 23) zT_86 rfl).trans rfl
theorem q86_22 (d : Nat) (lo : zL) (st : List Value) (h : zH) : zXf zT znl d 86 22 lo st h = zXf zT znl d 86 23 lo (.int (nI 0) :: st) h := (zXq (op := oPush 0 23) zT_86 rfl).trans rfl
theorem q86_23 (d : Nat) (lo : zL) (x : Int32) (h : zH) (hx : x = 0 ∨ x = 1) : zXf zT znl d 86 23 lo [.int x] h = some (some (.int x), h) := by
  refine (zXq (op := oZret) zT_86 rfl).trans ?_
  simp only [oZret, if_pos hx, zB_end]
theorem q87_0 (d : Nat) (lo : zL) (st : List Value) (h : zH) : zXf zT znl d 87 0 lo st h = zXf zT znl d 87 1 lo (.int (nI 0) :: st) h := (zXq (op := oPush 0 1) zT_87 rfl).trans rfl
theorem q87_1 (d : Nat) (a0 : Value) (a1 : Value) (x : Int32) (l : zL) (st : List Value) (h : zH) (hz : zokv a0 = true) : zXf zT znl d 87 1 (a0 :: a1 :: l) (.int x :: st) h = zXf zT znl d 87 2 (a0 :: .int x :: l) st h := by
  refine (zXq (op := oIs 1 2) zT_87 rfl).trans ?_
  simp only [oIs, zok, hz, Bool.and_self, if_true, List.set_cons_succ, List.set_cons_zero, zB_go]
theorem q87_2 (d : Nat) (lo : zL) (st : List Value) (h : zH) : zXf zT znl d 87 2 lo st h = zXf zT znl d 87 3 lo (.int (nI 0) :: st) h := (zXq (op := oPush 0 3) zT_87 rfl).trans rfl
theorem q87_3 (d : Nat) (a0 : Value) (a1 : Value) (a2 : Value) (x : Int32) (l : zL) (st : List Value) (h : zH) (hz : zokv a1 = true) : zXf zT znl d 87 3 (a0 :: a1 :: a2 :: l) (.int x :: st) h = zXf zT znl d 87 4 (a0 :: a1 :: .int x :: l) st h := by
  refine (zXq (op := oIs 2 4) zT_87 rfl).trans ?_
  simp only [oIs, zok, hz, Bool.and_self, if_true, List.set_cons_succ, List.set_cons_zero, zB_go]
theorem q87_4 (d : Nat) (a0 : Value) (a1 : Value) (x : Int32) (l : zL) (st : List Value) (h : zH) : zXf zT znl d 87 4 (a0 :: a1 :: .int x :: l) st h = zXf zT znl d 87 5 (a0 :: a1 :: .int x :: l) (.int x :: st) h := (zXq (op := oIl 2 5) zT_87 rfl).trans rfl
theorem q87_5 (d : Nat) (lo : zL) (st : List Value) (h : zH) : zXf zT znl d 87 5 lo st h = zXf zT znl d 87 6 lo (.int (nI 4) :: st) h := (zXq (op := oPush 4 6) zT_87 rfl).trans rfl
theorem q87_6 (d : Nat) (lo : zL) (x y : Int32) (st : List Value) (h : zH) : zXf zT znl d 87 6 lo (.int y :: .int x :: st) h = if y ≤ x then zXf zT znl d 87 52 lo st h else zXf zT znl d 87 9 lo st h := (zXq (op := oCGe 52 9) zT_87 rfl).trans (zB_if _ _)
theorem q87_9 (d : Nat) (x : Nat) (l : zL) (st : List Value) (h : zH) : zXf zT znl d 87 9 (.ref x :: l) st h = zXf zT znl d 87 10 (.ref x :: l) (.ref x :: st) h := (zXq (op := oAl 0 10) zT_87 rfl).trans rfl
theorem q87_10 (d : Nat) (lo : zL) (x0 : Value) (h : zH) (hr : zrc 0 [x0] = true) : zXf zT znl d 87 10 lo [x0] h = (zCf zT znl d 85 [x0] h).bind fun o => zXf zT znl d 87 13 lo (o.1.toList ++ []) o.2 := (zXq (op := oC1 0 85 13) zT_87 rfl).trans (zB_cl rfl hr)
theorem q87_13 (d : Nat) (lo : zL) (st : List Value) (h : zH) : zXf zT znl d 87 13 lo st h = zXf zT znl d 87 15 lo (.int (nI 48) :: st) h := (zXq (op := oPush 48 15) zT_87 rfl).trans rfl
theorem q87_15 (d : Nat) (lo : zL) (st : List Value) (h : zH) : zXf zT znl d 87 15 lo st h = zXf zT znl d 87 17 lo (.int (nI 57) :: st) h := (zXq (op := oPush 57 17) zT_87 rfl).trans rfl
theorem q87_17 (d : Nat) (lo : zL) (x0 x1 x2 : Value) (h : zH) : zXf zT znl d 87 17 lo [x2, x1, x0] h = (zCf zT znl d 0 [x0, x1, x2] h).bind fun o => zXf zT znl d 87 20 lo (o.1.toList ++ []) o.2 := (zXq (op := oC3 98 0 20) zT_87 rfl).trans (zB_cl rfl rfl)
theorem q87_20 (d : Nat) (lo : zL) (x : Int32) (st : List Value) (h : zH) : zXf zT znl d 87 20 lo (.int x :: st) h = if x = nI 0 then zXf zT znl d 87 52 lo st h else zXf zT znl d 87 23 lo st h := (zXq (op := oEq0 52 23) zT_87 rfl).trans (zB_if _ _)
theorem q87_23 (d : Nat) (a0 : Value) (x : Int32) (l : zL) (st : List Value) (h : zH) : zXf zT znl d 87 23 (a0 :: .int x :: l) st h = zXf zT znl d 87 24 (a0 :: .int x :: l) (.int x :: st) h := (zXq (op := oIl 1 24) zT_87 rfl).trans rfl
theorem q87_24 (d : Nat) (lo : zL) (st : List Value) (h : zH) : zXf zT znl d 87 24 lo st h = zXf zT znl d 87 26 lo (.int (nI 10) :: st) h := (zXq (op := oPush 10 26) zT_87 rfl).trans rfl
theorem q87_26 (d : Nat) (lo : zL) (x y : Int32) (st : List Value) (h : zH) : zXf zT znl d 87 26 lo (.int y :: .int x :: st) h = zXf zT znl d 87 27 lo (.int (x * y) :: st) h := (zXq (op := oBin (fun x y => x * y) 27) zT_87 rfl).trans rfl
theorem q87_27 (d : Nat) (x : Nat) (l : zL) (st : List Value) (h : zH) : zXf zT znl d 87 27 (.ref x :: l) st h = zXf zT znl d 87 28 (.ref x :: l) (.ref x :: st) h := (zXq (op := oAl 0 28) zT_87 rfl).trans rfl
theorem q87_28 (d : Nat) (lo : zL) (x0 s0 : Value) (h : zH) (hr : zrc 0 [x0] = true) : zXf zT znl d 87 28 lo [x0, s0] h = (zCf zT znl d 85 [x0] h).bind fun o => zXf zT znl d 87 31 lo (o.1.toList ++ [s0]) o.2 := (zXq (op := oC1 0 85 31) zT_87 rfl).trans (zB_cl rfl hr)
theorem q87_31 (d : Nat) (lo : zL) (x y : Int32) (st : List Value) (h : zH) : zXf zT znl d 87 31 lo (.int y :: .int x :: st) h = zXf zT znl d 87 32 lo (.int (x + y) :: st) h := (zXq (op := oBin (fun x y => x + y) 32) zT_87 rfl).trans rfl
theorem q87_32 (d : Nat) (lo : zL) (st : List Value) (h : zH) : zXf zT znl d 87 32 lo st h = zXf zT znl d 87 34 lo (.int (nI 48) :: st) h := (zXq (op := oPush 48 34) zT_87 rfl).trans rfl
theorem q87_34 (d : Nat) (lo : zL) (x y : Int32) (st : List Value) (h : zH) : zXf zT znl d 87 34 lo (.int y :: .int x :: st) h = zXf zT znl d 87 35 lo (.int (x - y) :: st) h := (zXq (op := oBin (fun x y => x - y) 35) zT_87 rfl).trans rfl
theorem q87_35 (d : Nat) (a0 : Value) (a1 : Value) (x : Int32) (l : zL) (st : List Value) (h : zH) (hz : zokv a0 = true) : zXf zT znl d 87 35 (a0 :: a1 :: l) (.int x :: st) h = zXf zT znl d 87 36 (a0 :: .int x :: l) st h := by
  refine (zXq (op := oIs 1 36) zT_87 rfl).trans ?_
  simp only [oIs, zok, hz, Bool.and_self, if_true, List.set_cons_succ, List.set_cons_zero, zB_go]
theorem q87_36 (d : Nat) (x : Nat) (l : zL) (st : List Value) (h : zH) : zXf zT znl d 87 36 (.ref x :: l) st h = zXf zT znl d 87 37 (.ref x :: l) (.ref x :: st) h := (zXq (op := oAl 0 37) zT_87 rfl).trans rfl
theorem q87_37i (d : Nat) (lo : zL) (x : Int32) (st : List Value) (h : zH) : zXf zT znl d 87 37 lo (.int x :: st) h = zXf zT znl d 87 38 lo (.int x :: .int x :: st) h := (zXq (op := oDup 38) zT_87 rfl).trans rfl
theorem q87_37r (d : Nat) (lo : zL) (x : Nat) (st : List Value) (h : zH) : zXf zT znl d 87 37 lo (.ref x :: st) h = zXf zT znl d 87 38 lo (.ref x :: .ref x :: st) h := (zXq (op := oDup 38) zT_87 rfl).trans rfl
theorem q87_38 (d : Nat) (lo : zL) (st : List Value) (h : zH) : zXf zT znl d 87 38 lo st h = zB zT znl d 87 (oGf 0 3 41 lo st h) := zXq (op := oGf 0 3 41) zT_87 rfl
theorem q87_41 (d : Nat) (lo : zL) (st : List Value) (h : zH) : zXf zT znl d 87 41 lo st h = zXf zT znl d 87 42 lo (.int (nI 1) :: st) h := (zXq (op := oPush 1 42) zT_87 rfl).trans rfl
theorem q87_42 (d : Nat) (lo : zL) (x y : Int32) (st : List Value) (h : zH) : zXf zT znl d 87 42 lo (.int y :: .int x :: st) h = zXf zT znl d 87 43 lo (.int (x + y) :: st) h := (zXq (op := oBin (fun x y => x + y) 43) zT_87 rfl).trans rfl
theorem q87_43 (d : Nat) (lo : zL) (st : List Value) (h : zH) : zXf zT znl d 87 43 lo st h = zB zT znl d 87 (oPf 0 3 46 lo st h) := zXq (op := oPf 0 3 46) zT_87 rfl
theorem q87_46 (d : Nat) (a0 : Value) (a1 : Value) (x : Int32) (l : zL) (st : List Value) (h : zH) (hz : zokv a1 = true) : zXf zT znl d 87 46 (a0 :: a1 :: .int x :: l) st h = zXf zT znl d 87 49 (a0 :: a1 :: .int (x + nI 1) :: l) st h := by
  refine (zXq (op := oInc 2 1 49) zT_87 rfl).trans ?_
  simp only [oInc, List.getElem?_cons_succ, List.getElem?_cons_zero, zok, hz, Bool.and_self, if_true, List.set_cons_succ, List.set_cons_zero, zB_go]
  try rfl
theorem q87_49 (d : Nat) (lo : zL) (st : List Value) (h : zH) : zXf zT znl d 87 49 lo st h = zXf zT znl d 87 4 lo st h := (zXq (op := oGoto 4) zT_87 rfl).trans rfl
theorem q87_52 (d : Nat) (x : Nat) (l : zL) (st : List Value) (h : zH) : zXf zT znl d 87 52 (.ref x :: l) st h = zXf zT znl d 87 53 (.ref x :: l) (.ref x :: st) h := (zXq (op := oAl 0 53) zT_87 rfl).trans rfl
theorem q87_53 (d : Nat) (lo : zL) (st : List Value) (h : zH) : zXf zT znl d 87 53 lo st h = zB zT znl d 87 (oGf 0 0 56 lo st h) := zXq (op := oGf 0 0 56) zT_87 rfl
theorem q87_56 (d : Nat) (lo : zL) (st : List Value) (h : zH) : zXf zT znl d 87 56 lo st h = zXf zT znl d 87 58 lo (.int (nI 110) :: st) h := (zXq (op := oPush 110 58) zT_87 rfl).trans rfl
theorem q87_58 (d : Nat) (a0 : Value) (x : Int32) (l : zL) (st : List Value) (h : zH) : zXf zT znl d 87 58 (a0 :: .int x :: l) st h = zXf zT znl d 87 59 (a0 :: .int x :: l) (.int x :: st) h := (zXq (op := oIl 1 59) zT_87 rfl).trans rfl
theorem q87_59 (d : Nat) (lo : zL) (x0 x1 x2 : Value) (h : zH) (hr : zrc 4 [x0, x1, x2] = true) : zXf zT znl d 87 59 lo [x2, x1, x0] h = (zCf zT znl d 79 [x0, x1, x2] h).bind fun o => zXf zT znl d 87 62 lo (o.1.toList ++ []) o.2 := (zXq (op := oC3 4 79 62) zT_87 rfl).trans (zB_cl rfl hr)
theorem q87_62 (d : Nat) (lo : zL) (h : zH) : zXf zT znl d 87 62 lo [] h = some (none, h) := (zXq (op := oRet) zT_87 rfl).trans rfl
theorem q88_0 (d : Nat) (x : Nat) (l : zL) (st : List Value) (h : zH) : zXf zT znl d 88 0 (.ref x :: l) st h = zXf zT znl d 88 1 (.ref x :: l) (.ref x :: st) h := (zXq (op := oAl 0 1) zT_88 rfl).trans rfl
theorem q88_1 (d : Nat) (lo : zL) (st : List Value) (h : zH) : zXf zT znl d 88 1 lo st h = zB zT znl d 88 (oGf 0 4 4 lo st h) := zXq (op := oGf 0 4 4) zT_88 rfl
theorem q88_4 (d : Nat) (lo : zL) (x : Int32) (st : List Value) (h : zH) : zXf zT znl d 88 4 lo (.int x :: st) h = if nI 0 ≤ x then zXf zT znl d 88 15 lo st h else zXf zT znl d 88 7 lo st h := (zXq (op := oGe0 15 7) zT_88 rfl).trans (zB_if _ _)
theorem q88_7 (d : Nat) (x : Nat) (l : zL) (st : List Value) (h : zH) : zXf zT znl d 88 7 (.ref x :: l) st h = zXf zT znl d 88 8 (.ref x :: l) (.ref x :: st) h := (zXq (op := oAl 0 8) zT_88 rfl).trans rfl
theorem q88_8 (d : Nat) (x : Nat) (l : zL) (st : List Value) (h : zH) : zXf zT znl d 88 8 (.ref x :: l) st h = zXf zT znl d 88 9 (.ref x :: l) (.ref x :: st) h := (zXq (op := oAl 0 9) zT_88 rfl).trans rfl
theorem q88_9 (d : Nat) (lo : zL) (st : List Value) (h : zH) : zXf zT znl d 88 9 lo st h = zB zT znl d 88 (oGf 0 3 12 lo st h) := zXq (op := oGf 0 3 12) zT_88 rfl
theorem q88_12 (d : Nat) (lo : zL) (st : List Value) (h : zH) : zXf zT znl d 88 12 lo st h = zB zT znl d 88 (oPf 0 4 15 lo st h) := zXq (op := oPf 0 4 15) zT_88 rfl
theorem q88_15 (d : Nat) (lo : zL) (h : zH) : zXf zT znl d 88 15 lo [] h = some (none, h) := (zXq (op := oRet) zT_88 rfl).trans rfl
theorem q89_0 (d : Nat) (a0 : Value) (x : Int32) (l : zL) (st : List Value) (h : zH) : zXf zT znl d 89 0 (a0 :: .int x :: l) st h = zXf zT znl d 89 1 (a0 :: .int x :: l) (.int x :: st) h := (zXq (op := oIl 1 1) zT_89 rfl).trans rfl
theorem q89_1 (d : Nat) (lo : zL) (st : List Value) (h : zH) : zXf zT znl d 89 1 lo st h = zXf zT znl d 89 2 lo (.int (nI 5) :: st) h := (zXq (op := oPush 5 2) zT_89 rfl).trans rfl
theorem q89_2 (d : Nat) (lo : zL) (x y : Int32) (st : List Value) (h : zH) : zXf zT znl d 89 2 lo (.int y :: .int x :: st) h = if x < y then zXf zT znl d 89 11 lo st h else zXf zT znl d 89 5 lo st h := (zXq (op := oCLt 11 5) zT_89 rfl).trans (zB_if _ _)
theorem q89_5 (d : Nat) (x : Nat) (l : zL) (st : List Value) (h : zH) : zXf zT znl d 89 5 (.ref x :: l) st h = zXf zT znl d 89 6 (.ref x :: l) (.ref x :: st) h := (zXq (op := oAl 0 6) zT_89 rfl).trans rfl
theorem q89_6 (d : Nat) (a0 : Value) (a1 : Value) (x : Int32) (l : zL) (st : List Value) (h : zH) : zXf zT znl d 89 6 (a0 :: a1 :: .int x :: l) st h = zXf zT znl d 89 7 (a0 :: a1 :: .int x :: l) (.int x :: st) h := (zXq (op := oIl 2 7) zT_89 rfl).trans rfl
theorem q89_7 (d : Nat) (lo : zL) (x0 x1 : Value) (h : zH) (hr : zrc 0 [x0, x1] = true) : zXf zT znl d 89 7 lo [x1, x0] h = (zCf zT znl d 90 [x0, x1] h).bind fun o => zXf zT znl d 89 10 lo (o.1.toList ++ []) o.2 := (zXq (op := oC2 0 90 10) zT_89 rfl).trans (zB_cl rfl hr)
theorem q89_10 (d : Nat) (lo : zL) (h : zH) : zXf zT znl d 89 10 lo [] h = some (none, h) := (zXq (op := oRet) zT_89 rfl).trans rfl
theorem q89_11 (d : Nat) (x : Nat) (l : zL) (st : List Value) (h : zH) : zXf zT znl d 89 11 (.ref x :: l) st h = zXf zT znl d 89 12 (.ref x :: l) (.ref x :: st) h := (zXq (op := oAl 0 12) zT_89 rfl).trans rfl
theorem q89_12 (d : Nat) (a0 : Value) (x : Int32) (l : zL) (st : List Value) (h : zH) : zXf zT znl d 89 12 (a0 :: .int x :: l) st h = zXf zT znl d 89 13 (a0 :: .int x :: l) (.int x :: st) h := (zXq (op := oIl 1 13) zT_89 rfl).trans rfl
theorem q89_13 (d : Nat) (lo : zL) (st : List Value) (h : zH) : zXf zT znl d 89 13 lo st h = zXf zT znl d 89 14 lo (.int (nI 1) :: st) h := (zXq (op := oPush 1 14) zT_89 rfl).trans rfl
theorem q89_14 (d : Nat) (lo : zL) (x y : Int32) (st : List Value) (h : zH) : zXf zT znl d 89 14 lo (.int y :: .int x :: st) h = zXf zT znl d 89 15 lo (.int (x + y) :: st) h := (zXq (op := oBin (fun x y => x + y) 15) zT_89 rfl).trans rfl
theorem q89_15 (d : Nat) (a0 : Value) (a1 : Value) (x : Int32) (l : zL) (st : List Value) (h : zH) : zXf zT znl d 89 15 (a0 :: a1 :: .int x :: l) st h = zXf zT znl d 89 16 (a0 :: a1 :: .int x :: l) (.int x :: st) h := (zXq (op := oIl 2 16) zT_89 rfl).trans rfl
theorem q89_16 (d : Nat) (lo : zL) (x0 x1 x2 : Value) (h : zH) (hr : zrc 0 [x0, x1, x2] = true) : zXf zT znl d 89 16 lo [x2, x1, x0] h = (zCf zT znl d 89 [x0, x1, x2] h).bind fun o => zXf zT znl d 89 19 lo (o.1.toList ++ []) o.2 := (zXq (op := oC3 0 89 19) zT_89 rfl).trans (zB_cl rfl hr)
theorem q89_19 (d : Nat) (a0 : Value) (x : Int32) (l : zL) (st : List Value) (h : zH) : zXf zT znl d 89 19 (a0 :: .int x :: l) st h = zXf zT znl d 89 20 (a0 :: .int x :: l) (.int x :: st) h := (zXq (op := oIl 1 20) zT_89 rfl).trans rfl
theorem q89_20 (d : Nat) (lo : zL) (st : List Value) (h : zH) : zXf zT znl d 89 20 lo st h = zXf zT znl d 89 21 lo (.int (nI 2) :: st) h := (zXq (op := oPush 2 21) zT_89 rfl).trans rfl
theorem q89_21 (d : Nat) (lo : zL) (x y : Int32) (st : List Value) (h : zH) : zXf zT znl d 89 21 lo (.int y :: .int x :: st) h = if x = y then zXf zT znl d 89 24 lo st h else zXf zT znl d 89 28 lo st h := (zXq (op := oCNe 28 24) zT_89 rfl).trans (zB_if _ _)
theorem q89_24 (d : Nat) (lo : zL) (st : List Value) (h : zH) : zXf zT znl d 89 24 lo st h = zXf zT znl d 89 25 lo (.int (nI 1) :: st) h := (zXq (op := oPush 1 25) zT_89 rfl).trans rfl
theorem q89_25 (d : Nat) (lo : zL) (st : List Value) (h : zH) : zXf zT znl d 89 25 lo st h = zXf zT znl d 89 30 lo st h := (zXq (op := oGoto 30) zT_89 rfl).trans rfl
theorem q89_28 (d : Nat) (lo : zL) (st : List Value) (h : zH) : zXf zT znl d 89 28 lo st h = zXf zT znl d 89 30 lo (.int (nI 60) :: st) h := (zXq (op := oPush 60 30) zT_89 rfl).trans rfl
theorem q89_30 (d : Nat) (a0 : Value) (a1 : Value) (a2 : Value) (a3 : Value) (x : Int32) (l : zL) (st : List Value) (h : zH) (hz : zokv a2 = true) : zXf zT znl d 89 30 (a0 :: a1 :: a2 :: a3 :: l) (.int x :: st) h = zXf zT znl d 89 31 (a0 :: a1 :: a2 :: .int x :: l) st h := by
  refine (zXq (op := oIs 3 31) zT_89 rfl).trans ?_
  simp only [oIs, zok, hz, Bool.and_self, if_true, List.set_cons_succ, List.set_cons_zero, zB_go]
theorem q89_31 (d : Nat) (lo : zL) (st : List Value) (h : zH) : zXf zT znl d 89 31 lo st h = zXf zT znl d 89 32 lo (.int (nI 0) :: st) h := (zXq (op := oPush 0 32) zT_89 rfl).trans rfl
theorem q89_32 (d : Nat) (a0 : Value) (a1 : Value) (a2 : Value) (a3 : Value) (a4 : Value) (x : Int32) (l : zL) (st : List Value) (h : zH) (hz : zokv a3 = true) : zXf zT znl d 89 32 (a0 :: a1 :: a2 :: a3 :: a4 :: l) (.int x :: st) h = zXf zT znl d 89 34 (a0 :: a1 :: a2 :: a3 :: .int x :: l) st h := by
  refine (zXq (op := oIs 4 34) zT_89 rfl).trans ?_
  simp only [oIs, zok, hz, Bool.and_self, if_true, List.set_cons_succ, List.set_cons_zero, zB_go]
theorem q89_34 (d : Nat) (a0 : Value) (a1 : Value) (a2 : Value) (a3 : Value) (x : Int32) (l : zL) (st : List Value) (h : zH) : zXf zT znl d 89 34 (a0 :: a1 :: a2 :: a3 :: .int x :: l) st h = zXf zT znl d 89 36 (a0 :: a1 :: a2 :: a3 :: .int x :: l) (.int x :: st) h := (zXq (op := oIl 4 36) zT_89 rfl).trans rfl
theorem q89_36 (d : Nat) (a0 : Value) (a1 : Value) (a2 : Value) (x : Int32) (l : zL) (st : List Value) (h : zH) : zXf zT znl d 89 36 (a0 :: a1 :: a2 :: .int x :: l) st h = zXf zT znl d 89 37 (a0 :: a1 :: a2 :: .int x :: l) (.int x :: st) h := (zXq (op := oIl 3 37) zT_89 rfl).trans rfl
theorem q89_37 (d : Nat) (lo : zL) (x y : Int32) (st : List Value) (h : zH) : zXf zT znl d 89 37 lo (.int y :: .int x :: st) h = if y ≤ x then zXf zT znl d 89 91 lo st h else zXf zT znl d 89 40 lo st h := (zXq (op := oCGe 91 40) zT_89 rfl).trans (zB_if _ _)
theorem q89_40 (d : Nat) (x : Nat) (l : zL) (st : List Value) (h : zH) : zXf zT znl d 89 40 (.ref x :: l) st h = zXf zT znl d 89 41 (.ref x :: l) (.ref x :: st) h := (zXq (op := oAl 0 41) zT_89 rfl).trans rfl
theorem q89_41 (d : Nat) (a0 : Value) (x : Int32) (l : zL) (st : List Value) (h : zH) : zXf zT znl d 89 41 (a0 :: .int x :: l) st h = zXf zT znl d 89 42 (a0 :: .int x :: l) (.int x :: st) h := (zXq (op := oIl 1 42) zT_89 rfl).trans rfl
theorem q89_42 (d : Nat) (lo : zL) (x0 s0 : Value) (h : zH) : zXf zT znl d 89 42 lo [x0, s0] h = (zCf zT znl d 84 [x0] h).bind fun o => zXf zT znl d 89 45 lo (o.1.toList ++ [s0]) o.2 := (zXq (op := oC1 98 84 45) zT_89 rfl).trans (zB_cl rfl rfl)
theorem q89_45 (d : Nat) (lo : zL) (x0 x1 : Value) (h : zH) (hr : zrc 0 [x0, x1] = true) : zXf zT znl d 89 45 lo [x1, x0] h = (zCf zT znl d 86 [x0, x1] h).bind fun o => zXf zT znl d 89 48 lo (o.1.toList ++ []) o.2 := (zXq (op := oC2 0 86 48) zT_89 rfl).trans (zB_cl rfl hr)
theorem q89_48 (d : Nat) (lo : zL) (x : Int32) (st : List Value) (h : zH) : zXf zT znl d 89 48 lo (.int x :: st) h = if x = nI 0 then zXf zT znl d 89 91 lo st h else zXf zT znl d 89 51 lo st h := (zXq (op := oEq0 91 51) zT_89 rfl).trans (zB_if _ _)
theorem q89_51 (d : Nat) (x : Nat) (l : zL) (st : List Value) (h : zH) : zXf zT znl d 89 51 (.ref x :: l) st h = zXf zT znl d 89 52 (.ref x :: l) (.ref x :: st) h := (zXq (op := oAl 0 52) zT_89 rfl).trans rfl
theorem q89_52 (d : Nat) (lo : zL) (x0 : Value) (h : zH) (hr : zrc 0 [x0] = true) : zXf zT znl d 89 52 lo [x0] h = (zCf zT znl d 85 [x0] h).bind fun o => zXf zT znl d 89 55 lo (o.1.toList ++ []) o.2 := (zXq (op := oC1 0 85 55) zT_89 rfl).trans (zB_cl rfl hr)
theorem q89_55 (d : Nat) (a0 : Value) (a1 : Value) (a2 : Value) (a3 : Value) (a4 : Value) (a5 : Value) (x : Int32) (l : zL) (st : List Value) (h : zH) (hz : zokv a4 = true) : zXf zT znl d 89 55 (a0 :: a1 :: a2 :: a3 :: a4 :: a5 :: l) (.int x :: st) h = zXf zT znl d 89 57 (a0 :: a1 :: a2 :: a3 :: a4 :: .int x :: l) st h := by
  refine (zXq (op := oIs 5 57) zT_89 rfl).trans ?_
  simp only [oIs, zok, hz, Bool.and_self, if_true, List.set_cons_succ, List.set_cons_zero, zB_go]
theorem q89_57 (d : Nat) (x : Nat) (l : zL) (st : List Value) (h : zH) : zXf zT znl d 89 57 (.ref x :: l) st h = zXf zT znl d 89 58 (.ref x :: l) (.ref x :: st) h := (zXq (op := oAl 0 58) zT_89 rfl).trans rfl
theorem q89_58i (d : Nat) (lo : zL) (x : Int32) (st : List Value) (h : zH) : zXf zT znl d 89 58 lo (.int x :: st) h = zXf zT znl d 89 59 lo (.int x :: .int x :: st) h := (zXq (op := oDup 59) zT_89 rfl).trans rfl
theorem q89_58r (d : Nat) (lo : zL) (x : Nat) (st : List Value) (h : zH) : zXf zT znl d 89 58 lo (.ref x :: st) h = zXf zT znl d 89 59 lo (.ref x :: .ref x :: st) h := (zXq (op := oDup 59) zT_89 rfl).trans rfl
theorem q89_59 (d : Nat) (lo : zL) (st : List Value) (h : zH) : zXf zT znl d 89 59 lo st h = zB zT znl d 89 (oGf 0 3 62 lo st h) := zXq (op := oGf 0 3 62) zT_89 rfl
theorem q89_62 (d : Nat) (lo : zL) (st : List Value) (h : zH) : zXf zT znl d 89 62 lo st h = zXf zT znl d 89 63 lo (.int (nI 1) :: st) h := (zXq (op := oPush 1 63) zT_89 rfl).trans rfl
theorem q89_63 (d : Nat) (lo : zL) (x y : Int32) (st : List Value) (h : zH) : zXf zT znl d 89 63 lo (.int y :: .int x :: st) h = zXf zT znl d 89 64 lo (.int (x + y) :: st) h := (zXq (op := oBin (fun x y => x + y) 64) zT_89 rfl).trans rfl
theorem q89_64 (d : Nat) (lo : zL) (st : List Value) (h : zH) : zXf zT znl d 89 64 lo st h = zB zT znl d 89 (oPf 0 3 67 lo st h) := zXq (op := oPf 0 3 67) zT_89 rfl
theorem q89_67 (d : Nat) (x : Nat) (l : zL) (st : List Value) (h : zH) : zXf zT znl d 89 67 (.ref x :: l) st h = zXf zT znl d 89 68 (.ref x :: l) (.ref x :: st) h := (zXq (op := oAl 0 68) zT_89 rfl).trans rfl
theorem q89_68 (d : Nat) (a0 : Value) (x : Int32) (l : zL) (st : List Value) (h : zH) : zXf zT znl d 89 68 (a0 :: .int x :: l) st h = zXf zT znl d 89 69 (a0 :: .int x :: l) (.int x :: st) h := (zXq (op := oIl 1 69) zT_89 rfl).trans rfl
theorem q89_69 (d : Nat) (lo : zL) (st : List Value) (h : zH) : zXf zT znl d 89 69 lo st h = zXf zT znl d 89 70 lo (.int (nI 1) :: st) h := (zXq (op := oPush 1 70) zT_89 rfl).trans rfl
theorem q89_70 (d : Nat) (lo : zL) (x y : Int32) (st : List Value) (h : zH) : zXf zT znl d 89 70 lo (.int y :: .int x :: st) h = zXf zT znl d 89 71 lo (.int (x + y) :: st) h := (zXq (op := oBin (fun x y => x + y) 71) zT_89 rfl).trans rfl
theorem q89_71 (d : Nat) (a0 : Value) (a1 : Value) (x : Int32) (l : zL) (st : List Value) (h : zH) : zXf zT znl d 89 71 (a0 :: a1 :: .int x :: l) st h = zXf zT znl d 89 72 (a0 :: a1 :: .int x :: l) (.int x :: st) h := (zXq (op := oIl 2 72) zT_89 rfl).trans rfl
theorem q89_72 (d : Nat) (lo : zL) (x0 x1 x2 : Value) (h : zH) (hr : zrc 0 [x0, x1, x2] = true) : zXf zT znl d 89 72 lo [x2, x1, x0] h = (zCf zT znl d 89 [x0, x1, x2] h).bind fun o => zXf zT znl d 89 75 lo (o.1.toList ++ []) o.2 := (zXq (op := oC3 0 89 75) zT_89 rfl).trans (zB_cl rfl hr)
theorem q89_75 (d : Nat) (x : Nat) (l : zL) (st : List Value) (h : zH) : zXf zT znl d 89 75 (.ref x :: l) st h = zXf zT znl d 89 76 (.ref x :: l) (.ref x :: st) h := (zXq (op := oAl 0 76) zT_89 rfl).trans rfl
theorem q89_76 (d : Nat) (lo : zL) (st : List Value) (h : zH) : zXf zT znl d 89 76 lo st h = zB zT znl d 89 (oGf 0 0 79 lo st h) := zXq (op := oGf 0 0 79) zT_89 rfl
theorem q89_79 (d : Nat) (a0 : Value) (a1 : Value) (a2 : Value) (a3 : Value) (a4 : Value) (x : Int32) (l : zL) (st : List Value) (h : zH) : zXf zT znl d 89 79 (a0 :: a1 :: a2 :: a3 :: a4 :: .int x :: l) st h = zXf zT znl d 89 81 (a0 :: a1 :: a2 :: a3 :: a4 :: .int x :: l) (.int x :: st) h := (zXq (op := oIl 5 81) zT_89 rfl).trans rfl
theorem q89_81 (d : Nat) (lo : zL) (st : List Value) (h : zH) : zXf zT znl d 89 81 lo st h = zXf zT znl d 89 82 lo (.int (nI 0) :: st) h := (zXq (op := oPush 0 82) zT_89 rfl).trans rfl
theorem q89_82 (d : Nat) (lo : zL) (x0 x1 x2 : Value) (h : zH) (hr : zrc 4 [x0, x1, x2] = true) : zXf zT znl d 89 82 lo [x2, x1, x0] h = (zCf zT znl d 79 [x0, x1, x2] h).bind fun o => zXf zT znl d 89 85 lo (o.1.toList ++ []) o.2 := (zXq (op := oC3 4 79 85) zT_89 rfl).trans (zB_cl rfl hr)
theorem q89_85 (d : Nat) (a0 : Value) (a1 : Value) (a2 : Value) (a3 : Value) (x : Int32) (l : zL) (st : List Value) (h : zH) (hz : zokv a3 = true) : zXf zT znl d 89 85 (a0 :: a1 :: a2 :: a3 :: .int x :: l) st h = zXf zT znl d 89 88 (a0 :: a1 :: a2 :: a3 :: .int (x + nI 1) :: l) st h := by
  refine (zXq (op := oInc 4 1 88) zT_89 rfl).trans ?_
  simp only [oInc, List.getElem?_cons_succ, List.getElem?_cons_zero, zok, hz, Bool.and_self, if_true, List.set_cons_succ, List.set_cons_zero, zB_go]
  try rfl
theorem q89_88 (d : Nat) (lo : zL) (st : List Value) (h : zH) : zXf zT znl d 89 88 lo st h = zXf zT znl d 89 34 lo st h := (zXq (op := oGoto 34) zT_89 rfl).trans rfl
theorem q89_91 (d : Nat) (lo : zL) (h : zH) : zXf zT znl d 89 91 lo [] h = some (none, h) := (zXq (op := oRet) zT_89 rfl).trans rfl
theorem q90_0 (d : Nat) (x : Nat) (l : zL) (st : List Value) (h : zH) : zXf zT znl d 90 0 (.ref x :: l) st h = zXf zT znl d 90 1 (.ref x :: l) (.ref x :: st) h := (zXq (op := oAl 0 1) zT_90 rfl).trans rfl
theorem q90_1 (d : Nat) (lo : zL) (x0 : Value) (h : zH) (hr : zrc 0 [x0] = true) : zXf zT znl d 90 1 lo [x0] h = (zCf zT znl d 85 [x0] h).bind fun o => zXf zT znl d 90 4 lo (o.1.toList ++ []) o.2 := (zXq (op := oC1 0 85 4) zT_90 rfl).trans (zB_cl rfl hr)
theorem q90_4 (d : Nat) (a0 : Value) (a1 : Value) (a2 : Value) (x : Int32) (l : zL) (st : List Value) (h : zH) (hz : zokv a1 = true) : zXf zT znl d 90 4 (a0 :: a1 :: a2 :: l) (.int x :: st) h = zXf zT znl d 90 5 (a0 :: a1 :: .int x :: l) st h := by
  refine (zXq (op := oIs 2 5) zT_90 rfl).trans ?_
  simp only [oIs, zok, hz, Bool.and_self, if_true, List.set_cons_succ, List.set_cons_zero, zB_go]
theorem q90_5 (d : Nat) (a0 : Value) (a1 : Value) (x : Int32) (l : zL) (st : List Value) (h : zH) : zXf zT znl d 90 5 (a0 :: a1 :: .int x :: l) st h = zXf zT znl d 90 6 (a0 :: a1 :: .int x :: l) (.int x :: st) h := (zXq (op := oIl 2 6) zT_90 rfl).trans rfl
theorem q90_6 (d : Nat) (lo : zL) (st : List Value) (h : zH) : zXf zT znl d 90 6 lo st h = zXf zT znl d 90 8 lo (.int (nI 48) :: st) h := (zXq (op := oPush 48 8) zT_90 rfl).trans rfl
theorem q90_8 (d : Nat) (lo : zL) (st : List Value) (h : zH) : zXf zT znl d 90 8 lo st h = zXf zT znl d 90 10 lo (.int (nI 57) :: st) h := (zXq (op := oPush 57 10) zT_90 rfl).trans rfl
theorem q90_10 (d : Nat) (lo : zL) (x0 x1 x2 : Value) (h : zH) : zXf zT znl d 90 10 lo [x2, x1, x0] h = (zCf zT znl d 0 [x0, x1, x2] h).bind fun o => zXf zT znl d 90 13 lo (o.1.toList ++ []) o.2 := (zXq (op := oC3 98 0 13) zT_90 rfl).trans (zB_cl rfl rfl)
theorem q90_13 (d : Nat) (lo : zL) (x : Int32) (st : List Value) (h : zH) : zXf zT znl d 90 13 lo (.int x :: st) h = if x = nI 0 then zXf zT znl d 90 23 lo st h else zXf zT znl d 90 16 lo st h := (zXq (op := oEq0 23 16) zT_90 rfl).trans (zB_if _ _)
theorem q90_16 (d : Nat) (x : Nat) (l : zL) (st : List Value) (h : zH) : zXf zT znl d 90 16 (.ref x :: l) st h = zXf zT znl d 90 17 (.ref x :: l) (.ref x :: st) h := (zXq (op := oAl 0 17) zT_90 rfl).trans rfl
theorem q90_17 (d : Nat) (lo : zL) (x0 : Value) (h : zH) (hr : zrc 0 [x0] = true) : zXf zT znl d 90 17 lo [x0] h = (zCf zT znl d 87 [x0] h).bind fun o => zXf zT znl d 90 20 lo (o.1.toList ++ []) o.2 := (zXq (op := oC1 0 87 20) zT_90 rfl).trans (zB_cl rfl hr)
theorem q90_20 (d : Nat) (lo : zL) (st : List Value) (h : zH) : zXf zT znl d 90 20 lo st h = zXf zT znl d 90 168 lo st h := (zXq (op := oGoto 168) zT_90 rfl).trans rfl
theorem q90_23 (d : Nat) (x : Nat) (l : zL) (st : List Value) (h : zH) : zXf zT znl d 90 23 (.ref x :: l) st h = zXf zT znl d 90 24 (.ref x :: l) (.ref x :: st) h := (zXq (op := oAl 0 24) zT_90 rfl).trans rfl
theorem q90_24 (d : Nat) (x : Nat) (l : zL) (st : List Value) (h : zH) : zXf zT znl d 90 24 (.ref x :: l) st h = zXf zT znl d 90 25 (.ref x :: l) (.ref x :: st) h := (zXq (op := oAl 0 25) zT_90 rfl).trans rfl
theorem q90_25 (d : Nat) (lo : zL) (st : List Value) (h : zH) : zXf zT znl d 90 25 lo st h = zB zT znl d 90 (oGf 0 5 28 lo st h) := zXq (op := oGf 0 5 28) zT_90 rfl
theorem q90_28 (d : Nat) (lo : zL) (x0 x1 : Value) (h : zH) (hr : zrc 0 [x0, x1] = true) : zXf zT znl d 90 28 lo [x1, x0] h = (zCf zT znl d 86 [x0, x1] h).bind fun o => zXf zT znl d 90 31 lo (o.1.toList ++ []) o.2 := (zXq (op := oC2 0 86 31) zT_90 rfl).trans (zB_cl rfl hr)
theorem q90_31 (d : Nat) (lo : zL) (x : Int32) (st : List Value) (h : zH) : zXf zT znl d 90 31 lo (.int x :: st) h = if x = nI 0 then zXf zT znl d 90 65 lo st h else zXf zT znl d 90 34 lo st h := (zXq (op := oEq0 65 34) zT_90 rfl).trans (zB_if _ _)
theorem q90_34 (d : Nat) (x : Nat) (l : zL) (st : List Value) (h : zH) : zXf zT znl d 90 34 (.ref x :: l) st h = zXf zT znl d 90 35 (.ref x :: l) (.ref x :: st) h := (zXq (op := oAl 0 35) zT_90 rfl).trans rfl
theorem q90_35 (d : Nat) (lo : zL) (st : List Value) (h : zH) : zXf zT znl d 90 35 lo st h = zB zT znl d 90 (oGf 0 0 38 lo st h) := zXq (op := oGf 0 0 38) zT_90 rfl
theorem q90_38 (d : Nat) (lo : zL) (st : List Value) (h : zH) : zXf zT znl d 90 38 lo st h = zXf zT znl d 90 40 lo (.int (nI 97) :: st) h := (zXq (op := oPush 97 40) zT_90 rfl).trans rfl
theorem q90_40 (d : Nat) (x : Nat) (l : zL) (st : List Value) (h : zH) : zXf zT znl d 90 40 (.ref x :: l) st h = zXf zT znl d 90 41 (.ref x :: l) (.ref x :: st) h := (zXq (op := oAl 0 41) zT_90 rfl).trans rfl
theorem q90_41 (d : Nat) (lo : zL) (st : List Value) (h : zH) : zXf zT znl d 90 41 lo st h = zB zT znl d 90 (oGf 0 5 44 lo st h) := zXq (op := oGf 0 5 44) zT_90 rfl
theorem q90_44 (d : Nat) (a0 : Value) (a1 : Value) (x : Int32) (l : zL) (st : List Value) (h : zH) : zXf zT znl d 90 44 (a0 :: a1 :: .int x :: l) st h = zXf zT znl d 90 45 (a0 :: a1 :: .int x :: l) (.int x :: st) h := (zXq (op := oIl 2 45) zT_90 rfl).trans rfl
theorem q90_45 (d : Nat) (lo : zL) (x : Int32) (st : List Value) (h : zH) : zXf zT znl d 90 45 lo (.int x :: st) h = zXf zT znl d 90 46 lo (.int ((x.toUInt32 % 65536).toInt32) :: st) h := (zXq (op := oUn (fun x => (x.toUInt32 % 65536).toInt32) 46) zT_90 rfl).trans rfl
theorem q90_46 (d : Nat) (lo : zL) (x0 x1 s0 s1 : Value) (h : zH) (hr : zrc 99 [x0, x1] = true) : zXf zT znl d 90 46 lo [x1, x0, s0, s1] h = (zCf zT znl d 211 [x0, x1] h).bind fun o => zXf zT znl d 90 49 lo (o.1.toList ++ [s0, s1]) o.2 := (zXq (op := oC2 99 211 49) zT_90 rfl).trans (zB_cl rfl hr)
theorem q90_49 (d : Nat) (lo : zL) (x0 x1 x2 : Value) (h : zH) (hr : zrc 4 [x0, x1, x2] = true) : zXf zT znl d 90 49 lo [x2, x1, x0] h = (zCf zT znl d 79 [x0, x1, x2] h).bind fun o => zXf zT znl d 90 52 lo (o.1.toList ++ []) o.2 := (zXq (op := oC3 4 79 52) zT_90 rfl).trans (zB_cl rfl hr)
theorem q90_52 (d : Nat) (x : Nat) (l : zL) (st : List Value) (h : zH) : zXf zT znl d 90 52 (.ref x :: l) st h = zXf zT znl d 90 53 (.ref x :: l) (.ref x :: st) h := (zXq (op := oAl 0 53) zT_90 rfl).trans rfl
theorem q90_53i (d : Nat) (lo : zL) (x : Int32) (st : List Value) (h : zH) : zXf zT znl d 90 53 lo (.int x :: st) h = zXf zT znl d 90 54 lo (.int x :: .int x :: st) h := (zXq (op := oDup 54) zT_90 rfl).trans rfl
theorem q90_53r (d : Nat) (lo : zL) (x : Nat) (st : List Value) (h : zH) : zXf zT znl d 90 53 lo (.ref x :: st) h = zXf zT znl d 90 54 lo (.ref x :: .ref x :: st) h := (zXq (op := oDup 54) zT_90 rfl).trans rfl
theorem q90_54 (d : Nat) (lo : zL) (st : List Value) (h : zH) : zXf zT znl d 90 54 lo st h = zB zT znl d 90 (oGf 0 3 57 lo st h) := zXq (op := oGf 0 3 57) zT_90 rfl
theorem q90_57 (d : Nat) (lo : zL) (st : List Value) (h : zH) : zXf zT znl d 90 57 lo st h = zXf zT znl d 90 58 lo (.int (nI 1) :: st) h := (zXq (op := oPush 1 58) zT_90 rfl).trans rfl
theorem q90_58 (d : Nat) (lo : zL) (x y : Int32) (st : List Value) (h : zH) : zXf zT znl d 90 58 lo (.int y :: .int x :: st) h = zXf zT znl d 90 59 lo (.int (x + y) :: st) h := (zXq (op := oBin (fun x y => x + y) 59) zT_90 rfl).trans rfl
theorem q90_59 (d : Nat) (lo : zL) (st : List Value) (h : zH) : zXf zT znl d 90 59 lo st h = zB zT znl d 90 (oPf 0 3 62 lo st h) := zXq (op := oPf 0 3 62) zT_90 rfl
theorem q90_62 (d : Nat) (lo : zL) (st : List Value) (h : zH) : zXf zT znl d 90 62 lo st h = zXf zT znl d 90 168 lo st h := (zXq (op := oGoto 168) zT_90 rfl).trans rfl
theorem q90_65 (d : Nat) (a0 : Value) (a1 : Value) (x : Int32) (l : zL) (st : List Value) (h : zH) : zXf zT znl d 90 65 (a0 :: a1 :: .int x :: l) st h = zXf zT znl d 90 66 (a0 :: a1 :: .int x :: l) (.int x :: st) h := (zXq (op := oIl 2 66) zT_90 rfl).trans rfl
theorem q90_66 (d : Nat) (lo : zL) (st : List Value) (h : zH) : zXf zT znl d 90 66 lo st h = zXf zT znl d 90 68 lo (.int (nI 33) :: st) h := (zXq (op := oPush 33 68) zT_90 rfl).trans rfl
theorem q90_68 (d : Nat) (lo : zL) (x y : Int32) (st : List Value) (h : zH) : zXf zT znl d 90 68 lo (.int y :: .int x :: st) h = if x = y then zXf zT znl d 90 71 lo st h else zXf zT znl d 90 106 lo st h := (zXq (op := oCNe 106 71) zT_90 rfl).trans (zB_if _ _)
theorem q90_71 (d : Nat) (a0 : Value) (x : Int32) (l : zL) (st : List Value) (h : zH) : zXf zT znl d 90 71 (a0 :: .int x :: l) st h = zXf zT znl d 90 72 (a0 :: .int x :: l) (.int x :: st) h := (zXq (op := oIl 1 72) zT_90 rfl).trans rfl
theorem q90_72 (d : Nat) (lo : zL) (st : List Value) (h : zH) : zXf zT znl d 90 72 lo st h = zXf zT znl d 90 73 lo (.int (nI 5) :: st) h := (zXq (op := oPush 5 73) zT_90 rfl).trans rfl
theorem q90_73 (d : Nat) (lo : zL) (x y : Int32) (st : List Value) (h : zH) : zXf zT znl d 90 73 lo (.int y :: .int x :: st) h = if y ≤ x then zXf zT znl d 90 106 lo st h else zXf zT znl d 90 76 lo st h := (zXq (op := oCGe 106 76) zT_90 rfl).trans (zB_if _ _)
theorem q90_76 (d : Nat) (x : Nat) (l : zL) (st : List Value) (h : zH) : zXf zT znl d 90 76 (.ref x :: l) st h = zXf zT znl d 90 77 (.ref x :: l) (.ref x :: st) h := (zXq (op := oAl 0 77) zT_90 rfl).trans rfl
theorem q90_77i (d : Nat) (lo : zL) (x : Int32) (st : List Value) (h : zH) : zXf zT znl d 90 77 lo (.int x :: st) h = zXf zT znl d 90 78 lo (.int x :: .int x :: st) h := (zXq (op := oDup 78) zT_90 rfl).trans rfl
theorem q90_77r (d : Nat) (lo : zL) (x : Nat) (st : List Value) (h : zH) : zXf zT znl d 90 77 lo (.ref x :: st) h = zXf zT znl d 90 78 lo (.ref x :: .ref x :: st) h := (zXq (op := oDup 78) zT_90 rfl).trans rfl
theorem q90_78 (d : Nat) (lo : zL) (st : List Value) (h : zH) : zXf zT znl d 90 78 lo st h = zB zT znl d 90 (oGf 0 3 81 lo st h) := zXq (op := oGf 0 3 81) zT_90 rfl
theorem q90_81 (d : Nat) (lo : zL) (st : List Value) (h : zH) : zXf zT znl d 90 81 lo st h = zXf zT znl d 90 82 lo (.int (nI 1) :: st) h := (zXq (op := oPush 1 82) zT_90 rfl).trans rfl
theorem q90_82 (d : Nat) (lo : zL) (x y : Int32) (st : List Value) (h : zH) : zXf zT znl d 90 82 lo (.int y :: .int x :: st) h = zXf zT znl d 90 83 lo (.int (x + y) :: st) h := (zXq (op := oBin (fun x y => x + y) 83) zT_90 rfl).trans rfl
theorem q90_83 (d : Nat) (lo : zL) (st : List Value) (h : zH) : zXf zT znl d 90 83 lo st h = zB zT znl d 90 (oPf 0 3 86 lo st h) := zXq (op := oPf 0 3 86) zT_90 rfl
theorem q90_86 (d : Nat) (x : Nat) (l : zL) (st : List Value) (h : zH) : zXf zT znl d 90 86 (.ref x :: l) st h = zXf zT znl d 90 87 (.ref x :: l) (.ref x :: st) h := (zXq (op := oAl 0 87) zT_90 rfl).trans rfl
theorem q90_87 (d : Nat) (a0 : Value) (x : Int32) (l : zL) (st : List Value) (h : zH) : zXf zT znl d 90 87 (a0 :: .int x :: l) st h = zXf zT znl d 90 88 (a0 :: .int x :: l) (.int x :: st) h := (zXq (op := oIl 1 88) zT_90 rfl).trans rfl
theorem q90_88 (d : Nat) (lo : zL) (st : List Value) (h : zH) : zXf zT znl d 90 88 lo st h = zXf zT znl d 90 89 lo (.int (nI 1) :: st) h := (zXq (op := oPush 1 89) zT_90 rfl).trans rfl
theorem q90_89 (d : Nat) (lo : zL) (x y : Int32) (st : List Value) (h : zH) : zXf zT znl d 90 89 lo (.int y :: .int x :: st) h = zXf zT znl d 90 90 lo (.int (x + y) :: st) h := (zXq (op := oBin (fun x y => x + y) 90) zT_90 rfl).trans rfl
theorem q90_90 (d : Nat) (lo : zL) (x0 x1 : Value) (h : zH) (hr : zrc 0 [x0, x1] = true) : zXf zT znl d 90 90 lo [x1, x0] h = (zCf zT znl d 90 [x0, x1] h).bind fun o => zXf zT znl d 90 93 lo (o.1.toList ++ []) o.2 := (zXq (op := oC2 0 90 93) zT_90 rfl).trans (zB_cl rfl hr)
theorem q90_93 (d : Nat) (x : Nat) (l : zL) (st : List Value) (h : zH) : zXf zT znl d 90 93 (.ref x :: l) st h = zXf zT znl d 90 94 (.ref x :: l) (.ref x :: st) h := (zXq (op := oAl 0 94) zT_90 rfl).trans rfl
theorem q90_94 (d : Nat) (lo : zL) (st : List Value) (h : zH) : zXf zT znl d 90 94 lo st h = zB zT znl d 90 (oGf 0 0 97 lo st h) := zXq (op := oGf 0 0 97) zT_90 rfl
theorem q90_97 (d : Nat) (lo : zL) (st : List Value) (h : zH) : zXf zT znl d 90 97 lo st h = zXf zT znl d 90 99 lo (.int (nI 33) :: st) h := (zXq (op := oPush 33 99) zT_90 rfl).trans rfl
theorem q90_99 (d : Nat) (lo : zL) (st : List Value) (h : zH) : zXf zT znl d 90 99 lo st h = zXf zT znl d 90 100 lo (.int (nI 0) :: st) h := (zXq (op := oPush 0 100) zT_90 rfl).trans rfl
theorem q90_100 (d : Nat) (lo : zL) (x0 x1 x2 : Value) (h : zH) (hr : zrc 4 [x0, x1, x2] = true) : zXf zT znl d 90 100 lo [x2, x1, x0] h = (zCf zT znl d 79 [x0, x1, x2] h).bind fun o => zXf zT znl d 90 103 lo (o.1.toList ++ []) o.2 := (zXq (op := oC3 4 79 103) zT_90 rfl).trans (zB_cl rfl hr)
theorem q90_103 (d : Nat) (lo : zL) (st : List Value) (h : zH) : zXf zT znl d 90 103 lo st h = zXf zT znl d 90 168 lo st h := (zXq (op := oGoto 168) zT_90 rfl).trans rfl
theorem q90_106 (d : Nat) (a0 : Value) (a1 : Value) (x : Int32) (l : zL) (st : List Value) (h : zH) : zXf zT znl d 90 106 (a0 :: a1 :: .int x :: l) st h = zXf zT znl d 90 107 (a0 :: a1 :: .int x :: l) (.int x :: st) h := (zXq (op := oIl 2 107) zT_90 rfl).trans rfl
theorem q90_107 (d : Nat) (lo : zL) (st : List Value) (h : zH) : zXf zT znl d 90 107 lo st h = zXf zT znl d 90 109 lo (.int (nI 40) :: st) h := (zXq (op := oPush 40 109) zT_90 rfl).trans rfl
theorem q90_109 (d : Nat) (lo : zL) (x y : Int32) (st : List Value) (h : zH) : zXf zT znl d 90 109 lo (.int y :: .int x :: st) h = if x = y then zXf zT znl d 90 112 lo st h else zXf zT znl d 90 164 lo st h := (zXq (op := oCNe 164 112) zT_90 rfl).trans (zB_if _ _)
theorem q90_112 (d : Nat) (a0 : Value) (x : Int32) (l : zL) (st : List Value) (h : zH) : zXf zT znl d 90 112 (a0 :: .int x :: l) st h = zXf zT znl d 90 113 (a0 :: .int x :: l) (.int x :: st) h := (zXq (op := oIl 1 113) zT_90 rfl).trans rfl
theorem q90_113 (d : Nat) (lo : zL) (st : List Value) (h : zH) : zXf zT znl d 90 113 lo st h = zXf zT znl d 90 114 lo (.int (nI 5) :: st) h := (zXq (op := oPush 5 114) zT_90 rfl).trans rfl
theorem q90_114 (d : Nat) (lo : zL) (x y : Int32) (st : List Value) (h : zH) : zXf zT znl d 90 114 lo (.int y :: .int x :: st) h = if y ≤ x then zXf zT znl d 90 164 lo st h else zXf zT znl d 90 117 lo st h := (zXq (op := oCGe 164 117) zT_90 rfl).trans (zB_if _ _)
theorem q90_117 (d : Nat) (x : Nat) (l : zL) (st : List Value) (h : zH) : zXf zT znl d 90 117 (.ref x :: l) st h = zXf zT znl d 90 118 (.ref x :: l) (.ref x :: st) h := (zXq (op := oAl 0 118) zT_90 rfl).trans rfl
theorem q90_118i (d : Nat) (lo : zL) (x : Int32) (st : List Value) (h : zH) : zXf zT znl d 90 118 lo (.int x :: st) h = zXf zT znl d 90 119 lo (.int x :: .int x :: st) h := (zXq (op := oDup 119) zT_90 rfl).trans rfl
theorem q90_118r (d : Nat) (lo : zL) (x : Nat) (st : List Value) (h : zH) : zXf zT znl d 90 118 lo (.ref x :: st) h = zXf zT znl d 90 119 lo (.ref x :: .ref x :: st) h := (zXq (op := oDup 119) zT_90 rfl).trans rfl
theorem q90_119 (d : Nat) (lo : zL) (st : List Value) (h : zH) : zXf zT znl d 90 119 lo st h = zB zT znl d 90 (oGf 0 3 122 lo st h) := zXq (op := oGf 0 3 122) zT_90 rfl
theorem q90_122 (d : Nat) (lo : zL) (st : List Value) (h : zH) : zXf zT znl d 90 122 lo st h = zXf zT znl d 90 123 lo (.int (nI 1) :: st) h := (zXq (op := oPush 1 123) zT_90 rfl).trans rfl
theorem q90_123 (d : Nat) (lo : zL) (x y : Int32) (st : List Value) (h : zH) : zXf zT znl d 90 123 lo (.int y :: .int x :: st) h = zXf zT znl d 90 124 lo (.int (x + y) :: st) h := (zXq (op := oBin (fun x y => x + y) 124) zT_90 rfl).trans rfl
theorem q90_124 (d : Nat) (lo : zL) (st : List Value) (h : zH) : zXf zT znl d 90 124 lo st h = zB zT znl d 90 (oPf 0 3 127 lo st h) := zXq (op := oPf 0 3 127) zT_90 rfl
theorem q90_127 (d : Nat) (x : Nat) (l : zL) (st : List Value) (h : zH) : zXf zT znl d 90 127 (.ref x :: l) st h = zXf zT znl d 90 128 (.ref x :: l) (.ref x :: st) h := (zXq (op := oAl 0 128) zT_90 rfl).trans rfl
theorem q90_128 (d : Nat) (lo : zL) (st : List Value) (h : zH) : zXf zT znl d 90 128 lo st h = zXf zT znl d 90 129 lo (.int (nI 0) :: st) h := (zXq (op := oPush 0 129) zT_90 rfl).trans rfl
theorem q90_129 (d : Nat) (a0 : Value) (x : Int32) (l : zL) (st : List Value) (h : zH) : zXf zT znl d 90 129 (a0 :: .int x :: l) st h = zXf zT znl d 90 130 (a0 :: .int x :: l) (.int x :: st) h := (zXq (op := oIl 1 130) zT_90 rfl).trans rfl
theorem q90_130 (d : Nat) (lo : zL) (st : List Value) (h : zH) : zXf zT znl d 90 130 lo st h = zXf zT znl d 90 131 lo (.int (nI 1) :: st) h := (zXq (op := oPush 1 131) zT_90 rfl).trans rfl
theorem q90_131 (d : Nat) (lo : zL) (x y : Int32) (st : List Value) (h : zH) : zXf zT znl d 90 131 lo (.int y :: .int x :: st) h = zXf zT znl d 90 132 lo (.int (x + y) :: st) h := (zXq (op := oBin (fun x y => x + y) 132) zT_90 rfl).trans rfl
theorem q90_132 (d : Nat) (lo : zL) (x0 x1 x2 : Value) (h : zH) (hr : zrc 0 [x0, x1, x2] = true) : zXf zT znl d 90 132 lo [x2, x1, x0] h = (zCf zT znl d 89 [x0, x1, x2] h).bind fun o => zXf zT znl d 90 135 lo (o.1.toList ++ []) o.2 := (zXq (op := oC3 0 89 135) zT_90 rfl).trans (zB_cl rfl hr)
theorem q90_135 (d : Nat) (x : Nat) (l : zL) (st : List Value) (h : zH) : zXf zT znl d 90 135 (.ref x :: l) st h = zXf zT znl d 90 136 (.ref x :: l) (.ref x :: st) h := (zXq (op := oAl 0 136) zT_90 rfl).trans rfl
theorem q90_136 (d : Nat) (lo : zL) (st : List Value) (h : zH) : zXf zT znl d 90 136 lo st h = zXf zT znl d 90 138 lo (.ref 320 :: st) h := (zXq (op := oRefC 320 138) zT_90 rfl).trans rfl
theorem q90_138 (d : Nat) (lo : zL) (x0 x1 : Value) (h : zH) (hr : zrc 0 [x0, x1] = true) : zXf zT znl d 90 138 lo [x1, x0] h = (zCf zT znl d 86 [x0, x1] h).bind fun o => zXf zT znl d 90 141 lo (o.1.toList ++ []) o.2 := (zXq (op := oC2 0 86 141) zT_90 rfl).trans (zB_cl rfl hr)
theorem q90_141 (d : Nat) (lo : zL) (x : Int32) (st : List Value) (h : zH) : zXf zT znl d 90 141 lo (.int x :: st) h = if x = nI 0 then zXf zT znl d 90 157 lo st h else zXf zT znl d 90 144 lo st h := (zXq (op := oEq0 157 144) zT_90 rfl).trans (zB_if _ _)
theorem q90_144 (d : Nat) (x : Nat) (l : zL) (st : List Value) (h : zH) : zXf zT znl d 90 144 (.ref x :: l) st h = zXf zT znl d 90 145 (.ref x :: l) (.ref x :: st) h := (zXq (op := oAl 0 145) zT_90 rfl).trans rfl
theorem q90_145i (d : Nat) (lo : zL) (x : Int32) (st : List Value) (h : zH) : zXf zT znl d 90 145 lo (.int x :: st) h = zXf zT znl d 90 146 lo (.int x :: .int x :: st) h := (zXq (op := oDup 146) zT_90 rfl).trans rfl
theorem q90_145r (d : Nat) (lo : zL) (x : Nat) (st : List Value) (h : zH) : zXf zT znl d 90 145 lo (.ref x :: st) h = zXf zT znl d 90 146 lo (.ref x :: .ref x :: st) h := (zXq (op := oDup 146) zT_90 rfl).trans rfl
theorem q90_146 (d : Nat) (lo : zL) (st : List Value) (h : zH) : zXf zT znl d 90 146 lo st h = zB zT znl d 90 (oGf 0 3 149 lo st h) := zXq (op := oGf 0 3 149) zT_90 rfl
theorem q90_149 (d : Nat) (lo : zL) (st : List Value) (h : zH) : zXf zT znl d 90 149 lo st h = zXf zT znl d 90 150 lo (.int (nI 1) :: st) h := (zXq (op := oPush 1 150) zT_90 rfl).trans rfl
theorem q90_150 (d : Nat) (lo : zL) (x y : Int32) (st : List Value) (h : zH) : zXf zT znl d 90 150 lo (.int y :: .int x :: st) h = zXf zT znl d 90 151 lo (.int (x + y) :: st) h := (zXq (op := oBin (fun x y => x + y) 151) zT_90 rfl).trans rfl
theorem q90_151 (d : Nat) (lo : zL) (st : List Value) (h : zH) : zXf zT znl d 90 151 lo st h = zB zT znl d 90 (oPf 0 3 154 lo st h) := zXq (op := oPf 0 3 154) zT_90 rfl
theorem q90_154 (d : Nat) (lo : zL) (st : List Value) (h : zH) : zXf zT znl d 90 154 lo st h = zXf zT znl d 90 168 lo st h := (zXq (op := oGoto 168) zT_90 rfl).trans rfl
theorem q90_157 (d : Nat) (x : Nat) (l : zL) (st : List Value) (h : zH) : zXf zT znl d 90 157 (.ref x :: l) st h = zXf zT znl d 90 158 (.ref x :: l) (.ref x :: st) h := (zXq (op := oAl 0 158) zT_90 rfl).trans rfl
theorem q90_158 (d : Nat) (lo : zL) (x0 : Value) (h : zH) (hr : zrc 0 [x0] = true) : zXf zT znl d 90 158 lo [x0] h = (zCf zT znl d 88 [x0] h).bind fun o => zXf zT znl d 90 161 lo (o.1.toList ++ []) o.2 := (zXq (op := oC1 0 88 161) zT_90 rfl).trans (zB_cl rfl hr)
theorem q90_161 (d : Nat) (lo : zL) (st : List Value) (h : zH) : zXf zT znl d 90 161 lo st h = zXf zT znl d 90 168 lo st h := (zXq (op := oGoto 168) zT_90 rfl).trans rfl
theorem q90_164 (d : Nat) (x : Nat) (l : zL) (st : List Value) (h : zH) : zXf zT znl d 90 164 (.ref x :: l) st h = zXf zT znl d 90 165 (.ref x :: l) (.ref x :: st) h := (zXq (op := oAl 0 165) zT_90 rfl).trans rfl
theorem q90_165 (d : Nat) (lo : zL) (x0 : Value) (h : zH) (hr : zrc 0 [x0] = true) : zXf zT znl d 90 165 lo [x0] h = (zCf zT znl d 88 [x0] h).bind fun o => zXf zT znl d 90 168 lo (o.1.toList ++ []) o.2 := (zXq (op := oC1 0 88 168) zT_90 rfl).trans (zB_cl rfl hr)
theorem q90_168 (d : Nat) (lo : zL) (h : zH) : zXf zT znl d 90 168 lo [] h = some (none, h) := (zXq (op := oRet) zT_90 rfl).trans rfl
theorem q91_0 (d : Nat) (x : Nat) (l : zL) (st : List Value) (h : zH) : zXf zT znl d 91 0 (.ref x :: l) st h = zXf zT znl d 91 1 (.ref x :: l) (.ref x :: st) h := (zXq (op := oAl 0 1) zT_91 rfl).trans rfl
theorem q91_1 (d : Nat) (a0 : Value) (x : Nat) (l : zL) (st : List Value) (h : zH) : zXf zT znl d 91 1 (a0 :: .ref x :: l) st h = zXf zT znl d 91 2 (a0 :: .ref x :: l) (.ref x :: st) h := (zXq (op := oAl 1 2) zT_91 rfl).trans rfl
theorem q91_2 (d : Nat) (lo : zL) (st : List Value) (h : zH) : zXf zT znl d 91 2 lo st h = zB zT znl d 91 (oPf 0 1 5 lo st h) := zXq (op := oPf 0 1 5) zT_91 rfl
theorem q91_5 (d : Nat) (x : Nat) (l : zL) (st : List Value) (h : zH) : zXf zT znl d 91 5 (.ref x :: l) st h = zXf zT znl d 91 6 (.ref x :: l) (.ref x :: st) h := (zXq (op := oAl 0 6) zT_91 rfl).trans rfl
theorem q91_6 (d : Nat) (a0 : Value) (a1 : Value) (x : Int32) (l : zL) (st : List Value) (h : zH) : zXf zT znl d 91 6 (a0 :: a1 :: .int x :: l) st h = zXf zT znl d 91 7 (a0 :: a1 :: .int x :: l) (.int x :: st) h := (zXq (op := oIl 2 7) zT_91 rfl).trans rfl
theorem q91_7 (d : Nat) (a0 : Value) (x : Nat) (l : zL) (st : List Value) (h : zH) : zXf zT znl d 91 7 (a0 :: .ref x :: l) st h = zXf zT znl d 91 8 (a0 :: .ref x :: l) (.ref x :: st) h := (zXq (op := oAl 1 8) zT_91 rfl).trans rfl
theorem q91_8 (d : Nat) (lo : zL) (st : List Value) (h : zH) : zXf zT znl d 91 8 lo st h = zB zT znl d 91 (oAlen 9 lo st h) := zXq (op := oAlen 9) zT_91 rfl
theorem q91_9 (d : Nat) (lo : zL) (x0 x1 s0 : Value) (h : zH) : zXf zT znl d 91 9 lo [x1, x0, s0] h = (zCf zT znl d 206 [x0, x1] h).bind fun o => zXf zT znl d 91 12 lo (o.1.toList ++ [s0]) o.2 := (zXq (op := oC2 98 206 12) zT_91 rfl).trans (zB_cl rfl rfl)
theorem q91_12 (d : Nat) (lo : zL) (st : List Value) (h : zH) : zXf zT znl d 91 12 lo st h = zB zT znl d 91 (oPf 0 2 15 lo st h) := zXq (op := oPf 0 2 15) zT_91 rfl
theorem q91_15 (d : Nat) (x : Nat) (l : zL) (st : List Value) (h : zH) : zXf zT znl d 91 15 (.ref x :: l) st h = zXf zT znl d 91 16 (.ref x :: l) (.ref x :: st) h := (zXq (op := oAl 0 16) zT_91 rfl).trans rfl
theorem q91_16 (d : Nat) (a0 : Value) (a1 : Value) (a2 : Value) (x : Nat) (l : zL) (st : List Value) (h : zH) : zXf zT znl d 91 16 (a0 :: a1 :: a2 :: .ref x :: l) st h = zXf zT znl d 91 17 (a0 :: a1 :: a2 :: .ref x :: l) (.ref x :: st) h := (zXq (op := oAl 3 17) zT_91 rfl).trans rfl
theorem q91_17 (d : Nat) (lo : zL) (st : List Value) (h : zH) : zXf zT znl d 91 17 lo st h = zB zT znl d 91 (oPf 0 5 20 lo st h) := zXq (op := oPf 0 5 20) zT_91 rfl
theorem q91_20 (d : Nat) (x : Nat) (l : zL) (st : List Value) (h : zH) : zXf zT znl d 91 20 (.ref x :: l) st h = zXf zT znl d 91 21 (.ref x :: l) (.ref x :: st) h := (zXq (op := oAl 0 21) zT_91 rfl).trans rfl
theorem q91_21 (d : Nat) (lo : zL) (st : List Value) (h : zH) : zXf zT znl d 91 21 lo st h = zXf zT znl d 91 22 lo (.int (nI 0) :: st) h := (zXq (op := oPush 0 22) zT_91 rfl).trans rfl
theorem q91_22 (d : Nat) (lo : zL) (st : List Value) (h : zH) : zXf zT znl d 91 22 lo st h = zB zT znl d 91 (oPf 0 3 25 lo st h) := zXq (op := oPf 0 3 25) zT_91 rfl
theorem q91_25 (d : Nat) (x : Nat) (l : zL) (st : List Value) (h : zH) : zXf zT znl d 91 25 (.ref x :: l) st h = zXf zT znl d 91 26 (.ref x :: l) (.ref x :: st) h := (zXq (op := oAl 0 26) zT_91 rfl).trans rfl
theorem q91_26 (d : Nat) (lo : zL) (st : List Value) (h : zH) : zXf zT znl d 91 26 lo st h = zXf zT znl d 91 27 lo (.int ((-1)) :: st) h := (zXq (op := oPush (-1) 27) zT_91 rfl).trans rfl
theorem q91_27 (d : Nat) (lo : zL) (st : List Value) (h : zH) : zXf zT znl d 91 27 lo st h = zB zT znl d 91 (oPf 0 4 30 lo st h) := zXq (op := oPf 0 4 30) zT_91 rfl
theorem q91_30 (d : Nat) (x : Nat) (l : zL) (st : List Value) (h : zH) : zXf zT znl d 91 30 (.ref x :: l) st h = zXf zT znl d 91 31 (.ref x :: l) (.ref x :: st) h := (zXq (op := oAl 0 31) zT_91 rfl).trans rfl
theorem q91_31 (d : Nat) (lo : zL) (st : List Value) (h : zH) : zXf zT znl d 91 31 lo st h = zB zT znl d 91 (oGf 0 0 34 lo st h) := zXq (op := oGf 0 0 34) zT_91 rfl
theorem q91_34 (d : Nat) (lo : zL) (x0 : Value) (h : zH) (hr : zrc 4 [x0] = true) : zXf zT znl d 91 34 lo [x0] h = (zCf zT znl d 78 [x0] h).bind fun o => zXf zT znl d 91 37 lo (o.1.toList ++ []) o.2 := (zXq (op := oC1 4 78 37) zT_91 rfl).trans (zB_cl rfl hr)
theorem q91_37 (d : Nat) (x : Nat) (l : zL) (st : List Value) (h : zH) : zXf zT znl d 91 37 (.ref x :: l) st h = zXf zT znl d 91 38 (.ref x :: l) (.ref x :: st) h := (zXq (op := oAl 0 38) zT_91 rfl).trans rfl
theorem q91_38 (d : Nat) (lo : zL) (st : List Value) (h : zH) : zXf zT znl d 91 38 lo st h = zXf zT znl d 91 39 lo (.int (nI 0) :: st) h := (zXq (op := oPush 0 39) zT_91 rfl).trans rfl
theorem q91_39 (d : Nat) (lo : zL) (st : List Value) (h : zH) : zXf zT znl d 91 39 lo st h = zXf zT znl d 91 40 lo (.int (nI 0) :: st) h := (zXq (op := oPush 0 40) zT_91 rfl).trans rfl
theorem q91_40 (d : Nat) (lo : zL) (x0 x1 x2 : Value) (h : zH) (hr : zrc 0 [x0, x1, x2] = true) : zXf zT znl d 91 40 lo [x2, x1, x0] h = (zCf zT znl d 89 [x0, x1, x2] h).bind fun o => zXf zT znl d 91 43 lo (o.1.toList ++ []) o.2 := (zXq (op := oC3 0 89 43) zT_91 rfl).trans (zB_cl rfl hr)
theorem q91_43 (d : Nat) (x : Nat) (l : zL) (st : List Value) (h : zH) : zXf zT znl d 91 43 (.ref x :: l) st h = zXf zT znl d 91 44 (.ref x :: l) (.ref x :: st) h := (zXq (op := oAl 0 44) zT_91 rfl).trans rfl
theorem q91_44 (d : Nat) (lo : zL) (st : List Value) (h : zH) : zXf zT znl d 91 44 lo st h = zB zT znl d 91 (oGf 0 3 47 lo st h) := zXq (op := oGf 0 3 47) zT_91 rfl
theorem q91_47 (d : Nat) (x : Nat) (l : zL) (st : List Value) (h : zH) : zXf zT znl d 91 47 (.ref x :: l) st h = zXf zT znl d 91 48 (.ref x :: l) (.ref x :: st) h := (zXq (op := oAl 0 48) zT_91 rfl).trans rfl
theorem q91_48 (d : Nat) (lo : zL) (st : List Value) (h : zH) : zXf zT znl d 91 48 lo st h = zB zT znl d 91 (oGf 0 2 51 lo st h) := zXq (op := oGf 0 2 51) zT_91 rfl
theorem q91_51 (d : Nat) (lo : zL) (x y : Int32) (st : List Value) (h : zH) : zXf zT znl d 91 51 lo (.int y :: .int x :: st) h = if y ≤ x then zXf zT znl d 91 58 lo st h else zXf zT znl d 91 54 lo st h := (zXq (op := oCGe 58 54) zT_91 rfl).trans (zB_if _ _)
theorem q91_54 (d : Nat) (x : Nat) (l : zL) (st : List Value) (h : zH) : zXf zT znl d 91 54 (.ref x :: l) st h = zXf zT znl d 91 55 (.ref x :: l) (.ref x :: st) h := (zXq (op := oAl 0 55) zT_91 rfl).trans rfl
theorem q91_55 (d : Nat) (lo : zL) (x0 : Value) (h : zH) (hr : zrc 0 [x0] = true) : zXf zT znl d 91 55 lo [x0] h = (zCf zT znl d 88 [x0] h).bind fun o => zXf zT znl d 91 58 lo (o.1.toList ++ []) o.2 := (zXq (op := oC1 0 88 58) zT_91 rfl).trans (zB_cl rfl hr)
theorem q91_58 (d : Nat) (x : Nat) (l : zL) (st : List Value) (h : zH) : zXf zT znl d 91 58 (.ref x :: l) st h = zXf zT znl d 91 59 (.ref x :: l) (.ref x :: st) h := (zXq (op := oAl 0 59) zT_91 rfl).trans rfl
theorem q91_59 (d : Nat) (lo : zL) (st : List Value) (h : zH) : zXf zT znl d 91 59 lo st h = zB zT znl d 91 (oGf 0 4 62 lo st h) := zXq (op := oGf 0 4 62) zT_91 rfl
theorem q91_62 (d : Nat) (lo : zL) (x : Int32) (h : zH) : zXf zT znl d 91 62 lo [.int x] h = some (some (.int x), h) := (zXq (op := oIret) zT_91 rfl).trans rfl
theorem q92_0 (d : Nat) (x : Nat) (l : zL) (st : List Value) (h : zH) : zXf zT znl d 92 0 (.ref x :: l) st h = zXf zT znl d 92 1 (.ref x :: l) (.ref x :: st) h := (zXq (op := oAl 0 1) zT_92 rfl).trans rfl
theorem q92_1 (d : Nat) (lo : zL) (st : List Value) (h : zH) : zXf zT znl d 92 1 lo st h = zB zT znl d 92 (oGf 3 1 4 lo st h) := zXq (op := oGf 3 1 4) zT_92 rfl
theorem q92_4 (d : Nat) (lo : zL) (st : List Value) (h : zH) : zXf zT znl d 92 4 lo st h = zXf zT znl d 92 6 lo (.int (nI 30) :: st) h := (zXq (op := oPush 30 6) zT_92 rfl).trans rfl
theorem q92_6 (d : Nat) (lo : zL) (x y : Int32) (st : List Value) (h : zH) : zXf zT znl d 92 6 lo (.int y :: .int x :: st) h = if y ≤ x then zXf zT znl d 92 29 lo st h else zXf zT znl d 92 9 lo st h := (zXq (op := oCGe 29 9) zT_92 rfl).trans (zB_if _ _)
theorem q92_9 (d : Nat) (x : Nat) (l : zL) (st : List Value) (h : zH) : zXf zT znl d 92 9 (.ref x :: l) st h = zXf zT znl d 92 10 (.ref x :: l) (.ref x :: st) h := (zXq (op := oAl 0 10) zT_92 rfl).trans rfl
theorem q92_10 (d : Nat) (lo : zL) (st : List Value) (h : zH) : zXf zT znl d 92 10 lo st h = zB zT znl d 92 (oGf 3 0 13 lo st h) := zXq (op := oGf 3 0 13) zT_92 rfl
theorem q92_13 (d : Nat) (x : Nat) (l : zL) (st : List Value) (h : zH) : zXf zT znl d 92 13 (.ref x :: l) st h = zXf zT znl d 92 14 (.ref x :: l) (.ref x :: st) h := (zXq (op := oAl 0 14) zT_92 rfl).trans rfl
theorem q92_14 (d : Nat) (lo : zL) (st : List Value) (h : zH) : zXf zT znl d 92 14 lo st h = zB zT znl d 92 (oGf 3 1 17 lo st h) := zXq (op := oGf 3 1 17) zT_92 rfl
theorem q92_17 (d : Nat) (a0 : Value) (x : Int32) (l : zL) (st : List Value) (h : zH) : zXf zT znl d 92 17 (a0 :: .int x :: l) st h = zXf zT znl d 92 18 (a0 :: .int x :: l) (.int x :: st) h := (zXq (op := oIl 1 18) zT_92 rfl).trans rfl
theorem q92_18 (d : Nat) (lo : zL) (st : List Value) (h : zH) : zXf zT znl d 92 18 lo st h = zB zT znl d 92 (oIast 19 lo st h) := zXq (op := oIast 19) zT_92 rfl
theorem q92_19 (d : Nat) (x : Nat) (l : zL) (st : List Value) (h : zH) : zXf zT znl d 92 19 (.ref x :: l) st h = zXf zT znl d 92 20 (.ref x :: l) (.ref x :: st) h := (zXq (op := oAl 0 20) zT_92 rfl).trans rfl
theorem q92_20i (d : Nat) (lo : zL) (x : Int32) (st : List Value) (h : zH) : zXf zT znl d 92 20 lo (.int x :: st) h = zXf zT znl d 92 21 lo (.int x :: .int x :: st) h := (zXq (op := oDup 21) zT_92 rfl).trans rfl
theorem q92_20r (d : Nat) (lo : zL) (x : Nat) (st : List Value) (h : zH) : zXf zT znl d 92 20 lo (.ref x :: st) h = zXf zT znl d 92 21 lo (.ref x :: .ref x :: st) h := (zXq (op := oDup 21) zT_92 rfl).trans rfl
theorem q92_21 (d : Nat) (lo : zL) (st : List Value) (h : zH) : zXf zT znl d 92 21 lo st h = zB zT znl d 92 (oGf 3 1 24 lo st h) := zXq (op := oGf 3 1 24) zT_92 rfl
theorem q92_24 (d : Nat) (lo : zL) (st : List Value) (h : zH) : zXf zT znl d 92 24 lo st h = zXf zT znl d 92 25 lo (.int (nI 1) :: st) h := (zXq (op := oPush 1 25) zT_92 rfl).trans rfl
theorem q92_25 (d : Nat) (lo : zL) (x y : Int32) (st : List Value) (h : zH) : zXf zT znl d 92 25 lo (.int y :: .int x :: st) h = zXf zT znl d 92 26 lo (.int (x + y) :: st) h := (zXq (op := oBin (fun x y => x + y) 26) zT_92 rfl).trans rfl
theorem q92_26 (d : Nat) (lo : zL) (st : List Value) (h : zH) : zXf zT znl d 92 26 lo st h = zB zT znl d 92 (oPf 3 1 29 lo st h) := zXq (op := oPf 3 1 29) zT_92 rfl
theorem q92_29 (d : Nat) (lo : zL) (h : zH) : zXf zT znl d 92 29 lo [] h = some (none, h) := (zXq (op := oRet) zT_92 rfl).trans rfl
theorem q93_0 (d : Nat) (x : Nat) (l : zL) (st : List Value) (h : zH) : zXf zT znl d 93 0 (.ref x :: l) st h = zXf zT znl d 93 1 (.ref x :: l) (.ref x :: st) h := (zXq (op := oAl 0 1) zT_93 rfl).trans rfl
theorem q93_1 (d : Nat) (lo : zL) (st : List Value) (h : zH) : zXf zT znl d 93 1 lo st h = zB zT znl d 93 (oGf 3 4 4 lo st h) := zXq (op := oGf 3 4 4) zT_93 rfl
theorem q93_4 (d : Nat) (x : Nat) (l : zL) (st : List Value) (h : zH) : zXf zT znl d 93 4 (.ref x :: l) st h = zXf zT znl d 93 5 (.ref x :: l) (.ref x :: st) h := (zXq (op := oAl 0 5) zT_93 rfl).trans rfl
theorem q93_5 (d : Nat) (lo : zL) (st : List Value) (h : zH) : zXf zT znl d 93 5 lo st h = zB zT znl d 93 (oGf 3 5 8 lo st h) := zXq (op := oGf 3 5 8) zT_93 rfl
theorem q93_8 (d : Nat) (lo : zL) (x y : Int32) (st : List Value) (h : zH) : zXf zT znl d 93 8 lo (.int y :: .int x :: st) h = zXf zT znl d 93 9 lo (.int (x - y) :: st) h := (zXq (op := oBin (fun x y => x - y) 9) zT_93 rfl).trans rfl
theorem q93_9 (d : Nat) (a0 : Value) (a1 : Value) (a2 : Value) (x : Int32) (l : zL) (st : List Value) (h : zH) (hz : zokv a1 = true) : zXf zT znl d 93 9 (a0 :: a1 :: a2 :: l) (.int x :: st) h = zXf zT znl d 93 10 (a0 :: a1 :: .int x :: l) st h := by
  refine (zXq (op := oIs 2 10) zT_93 rfl).trans ?_
  simp only [oIs, zok, hz, Bool.and_self, if_true, List.set_cons_succ, List.set_cons_zero, zB_go]
theorem q93_10 (d : Nat) (a0 : Value) (a1 : Value) (x : Int32) (l : zL) (st : List Value) (h : zH) : zXf zT znl d 93 10 (a0 :: a1 :: .int x :: l) st h = zXf zT znl d 93 11 (a0 :: a1 :: .int x :: l) (.int x :: st) h := (zXq (op := oIl 2 11) zT_93 rfl).trans rfl
theorem q93_11 (d : Nat) (lo : zL) (x : Int32) (st : List Value) (h : zH) : zXf zT znl d 93 11 lo (.int x :: st) h = if x = nI 0 then zXf zT znl d 93 14 lo st h else zXf zT znl d 93 21 lo st h := (zXq (op := oNe0 21 14) zT_93 rfl).trans (zB_if _ _)
theorem q93_14 (d : Nat) (x : Nat) (l : zL) (st : List Value) (h : zH) : zXf zT znl d 93 14 (.ref x :: l) st h = zXf zT znl d 93 15 (.ref x :: l) (.ref x :: st) h := (zXq (op := oAl 0 15) zT_93 rfl).trans rfl
theorem q93_15 (d : Nat) (lo : zL) (st : List Value) (h : zH) : zXf zT znl d 93 15 lo st h = zXf zT znl d 93 16 lo (.int (nI 1) :: st) h := (zXq (op := oPush 1 16) zT_93 rfl).trans rfl
theorem q93_16 (d : Nat) (lo : zL) (st : List Value) (h : zH) : zXf zT znl d 93 16 lo st h = zB zT znl d 93 (oPf 3 2 19 lo st h) := zXq (op := oPf 3 2 19) zT_93 rfl
theorem q93_19 (d : Nat) (lo : zL) (st : List Value) (h : zH) : zXf zT znl d 93 19 lo st h = zXf zT znl d 93 20 lo (.int (nI 0) :: st) h := (zXq (op := oPush 0 20) zT_93 rfl).trans rfl
theorem q93_20 (d : Nat) (lo : zL) (x : Int32) (h : zH) : zXf zT znl d 93 20 lo [.int x] h = some (some (.int x), h) := (zXq (op := oIret) zT_93 rfl).trans rfl
theorem q93_21 (d : Nat) (a0 : Value) (x : Int32) (l : zL) (st : List Value) (h : zH) : zXf zT znl d 93 21 (a0 :: .int x :: l) st h = zXf zT znl d 93 22 (a0 :: .int x :: l) (.int x :: st) h := (zXq (op := oIl 1 22) zT_93 rfl).trans rfl
theorem q93_22 (d : Nat) (a0 : Value) (a1 : Value) (x : Int32) (l : zL) (st : List Value) (h : zH) : zXf zT znl d 93 22 (a0 :: a1 :: .int x :: l) st h = zXf zT znl d 93 23 (a0 :: a1 :: .int x :: l) (.int x :: st) h := (zXq (op := oIl 2 23) zT_93 rfl).trans rfl
theorem q93_23 (d : Nat) (lo : zL) (x y : Int32) (st : List Value) (h : zH) (hy : ¬ y = 0) : zXf zT znl d 93 23 lo (.int y :: .int x :: st) h = zXf zT znl d 93 24 lo (.int (x / y) :: st) h := by
  refine (zXq (op := oDiv 24) zT_93 rfl).trans ?_
  simp only [oDiv, if_neg hy, zB_go]
theorem q93_24 (d : Nat) (lo : zL) (x : Int32) (h : zH) : zXf zT znl d 93 24 lo [.int x] h = some (some (.int x), h) := (zXq (op := oIret) zT_93 rfl).trans rfl
theorem q94_0 (d : Nat) (a0 : Value) (x : Int32) (l : zL) (st : List Value) (h : zH) : zXf zT znl d 94 0 (a0 :: .int x :: l) st h = zXf zT znl d 94 1 (a0 :: .int x :: l) (.int x :: st) h := (zXq (op := oIl 1 1) zT_94 rfl).trans rfl
theorem q94_1 (d : Nat) (lo : zL) (st : List Value) (h : zH) : zXf zT znl d 94 1 lo st h = zXf zT znl d 94 2 lo (.int (nI 0) :: st) h := (zXq (op := oPush 0 2) zT_94 rfl).trans rfl
theorem q94_2 (d : Nat) (lo : zL) (st : List Value) (h : zH) : zXf zT znl d 94 2 lo st h = zXf zT znl d 94 4 lo (.int (nI 6) :: st) h := (zXq (op := oPush 6 4) zT_94 rfl).trans rfl
theorem q94_4 (d : Nat) (lo : zL) (x0 x1 x2 : Value) (h : zH) : zXf zT znl d 94 4 lo [x2, x1, x0] h = (zCf zT znl d 0 [x0, x1, x2] h).bind fun o => zXf zT znl d 94 7 lo (o.1.toList ++ []) o.2 := (zXq (op := oC3 98 0 7) zT_94 rfl).trans (zB_cl rfl rfl)
theorem q94_7 (d : Nat) (lo : zL) (x : Int32) (st : List Value) (h : zH) : zXf zT znl d 94 7 lo (.int x :: st) h = if x = nI 0 then zXf zT znl d 94 26 lo st h else zXf zT znl d 94 10 lo st h := (zXq (op := oEq0 26 10) zT_94 rfl).trans (zB_if _ _)
theorem q94_10 (d : Nat) (x : Nat) (l : zL) (st : List Value) (h : zH) : zXf zT znl d 94 10 (.ref x :: l) st h = zXf zT znl d 94 11 (.ref x :: l) (.ref x :: st) h := (zXq (op := oAl 0 11) zT_94 rfl).trans rfl
theorem q94_11 (d : Nat) (lo : zL) (st : List Value) (h : zH) : zXf zT znl d 94 11 lo st h = zXf zT znl d 94 14 lo (.ref 309 :: st) h := (zXq (op := oRefC 309 14) zT_94 rfl).trans rfl
theorem q94_14 (d : Nat) (a0 : Value) (x : Int32) (l : zL) (st : List Value) (h : zH) : zXf zT znl d 94 14 (a0 :: .int x :: l) st h = zXf zT znl d 94 15 (a0 :: .int x :: l) (.int x :: st) h := (zXq (op := oIl 1 15) zT_94 rfl).trans rfl
theorem q94_15 (d : Nat) (lo : zL) (st : List Value) (h : zH) : zXf zT znl d 94 15 lo st h = zB zT znl d 94 (oIald 16 lo st h) := zXq (op := oIald 16) zT_94 rfl
theorem q94_16 (d : Nat) (a0 : Value) (a1 : Value) (x : Int32) (l : zL) (st : List Value) (h : zH) : zXf zT znl d 94 16 (a0 :: a1 :: .int x :: l) st h = zXf zT znl d 94 17 (a0 :: a1 :: .int x :: l) (.int x :: st) h := (zXq (op := oIl 2 17) zT_94 rfl).trans rfl
theorem q94_17 (d : Nat) (a0 : Value) (a1 : Value) (a2 : Value) (x : Int32) (l : zL) (st : List Value) (h : zH) : zXf zT znl d 94 17 (a0 :: a1 :: a2 :: .int x :: l) st h = zXf zT znl d 94 18 (a0 :: a1 :: a2 :: .int x :: l) (.int x :: st) h := (zXq (op := oIl 3 18) zT_94 rfl).trans rfl
theorem q94_18 (d : Nat) (a0 : Value) (a1 : Value) (a2 : Value) (a3 : Value) (x : Int32) (l : zL) (st : List Value) (h : zH) : zXf zT znl d 94 18 (a0 :: a1 :: a2 :: a3 :: .int x :: l) st h = zXf zT znl d 94 20 (a0 :: a1 :: a2 :: a3 :: .int x :: l) (.int x :: st) h := (zXq (op := oIl 4 20) zT_94 rfl).trans rfl
theorem q94_20 (d : Nat) (lo : zL) (x0 x1 x2 x3 x4 : Value) (h : zH) (hr : zrc 3 [x0, x1, x2, x3, x4] = true) : zXf zT znl d 94 20 lo [x4, x3, x2, x1, x0] h = (zCf zT znl d 95 [x0, x1, x2, x3, x4] h).bind fun o => zXf zT znl d 94 23 lo (o.1.toList ++ []) o.2 := (zXq (op := oC5 3 95 23) zT_94 rfl).trans (zB_cl rfl hr)
theorem q94_23 (d : Nat) (lo : zL) (st : List Value) (h : zH) : zXf zT znl d 94 23 lo st h = zXf zT znl d 94 27 lo st h := (zXq (op := oGoto 27) zT_94 rfl).trans rfl
theorem q94_26 (d : Nat) (lo : zL) (st : List Value) (h : zH) : zXf zT znl d 94 26 lo st h = zXf zT znl d 94 27 lo (.int (nI 0) :: st) h := (zXq (op := oPush 0 27) zT_94 rfl).trans rfl
theorem q94_27 (d : Nat) (lo : zL) (x : Int32) (h : zH) : zXf zT znl d 94 27 lo [.int x] h = some (some (.int x), h) := (zXq (op := oIret) zT_94 rfl).trans rfl
theorem q95_0 (d : Nat) (x : Nat) (l : zL) (st : List Value) (h : zH) : zXf zT znl d 95 0 (.ref x :: l) st h = zXf zT znl d 95 1 (.ref x :: l) (.ref x :: st) h := (zXq (op := oAl 0 1) zT_95 rfl).trans rfl
theorem q95_1 (d : Nat) (lo : zL) (st : List Value) (h : zH) : zXf zT znl d 95 1 lo st h = zB zT znl d 95 (oGf 3 2 4 lo st h) := zXq (op := oGf 3 2 4) zT_95 rfl
theorem q95_4 (d : Nat) (lo : zL) (x : Int32) (st : List Value) (h : zH) : zXf zT znl d 95 4 lo (.int x :: st) h = if x = nI 0 then zXf zT znl d 95 9 lo st h else zXf zT znl d 95 7 lo st h := (zXq (op := oEq0 9 7) zT_95 rfl).trans (zB_if _ _)
theorem q95_7 (d : Nat) (lo : zL) (st : List Value) (h : zH) : zXf zT znl d 95 7 lo st h = zXf zT znl d 95 8 lo (.int (nI 0) :: st) h := (zXq (op := oPush 0 8) zT_95 rfl).trans rfl
theorem q95_8 (d : Nat) (lo : zL) (x : Int32) (h : zH) : zXf zT znl d 95 8 lo [.int x] h = some (some (.int x), h) := (zXq (op := oIret) zT_95 rfl).trans rfl
theorem q95_9 (d : Nat) (a0 : Value) (x : Int32) (l : zL) (st : List Value) (h : zH) : zXf zT znl d 95 9 (a0 :: .int x :: l) st h = zXf zT znl d 95 10 (a0 :: .int x :: l) (.int x :: st) h := (zXq (op := oIl 1 10) zT_95 rfl).trans rfl
theorem q95_10 (d : Nat) (a0 : Value) (a1 : Value) (a2 : Value) (a3 : Value) (a4 : Value) (a5 : Value) (x : Int32) (l : zL) (st : List Value) (h : zH) (hz : zokv a4 = true) : zXf zT znl d 95 10 (a0 :: a1 :: a2 :: a3 :: a4 :: a5 :: l) (.int x :: st) h = zXf zT znl d 95 12 (a0 :: a1 :: a2 :: a3 :: a4 :: .int x :: l) st h := by
  refine (zXq (op := oIs 5 12) zT_95 rfl).trans ?_
  simp only [oIs, zok, hz, Bool.and_self, if_true, List.set_cons_succ, List.set_cons_zero, zB_go]
theorem q95_12 (d : Nat) (lo : zL) (st : List Value) (h : zH) : zXf zT znl d 95 12 lo st h = zXf zT znl d 95 13 lo (.int (nI 0) :: st) h := (zXq (op := oPush 0 13) zT_95 rfl).trans rfl
theorem q95_13 (d : Nat) (a0 : Value) (a1 : Value) (a2 : Value) (a3 : Value) (a4 : Value) (a5 : Value) (a6 : Value) (x : Int32) (l : zL) (st : List Value) (h : zH) (hz : zokv a5 = true) : zXf zT znl d 95 13 (a0 :: a1 :: a2 :: a3 :: a4 :: a5 :: a6 :: l) (.int x :: st) h = zXf zT znl d 95 15 (a0 :: a1 :: a2 :: a3 :: a4 :: a5 :: .int x :: l) st h := by
  refine (zXq (op := oIs 6 15) zT_95 rfl).trans ?_
  simp only [oIs, zok, hz, Bool.and_self, if_true, List.set_cons_succ, List.set_cons_zero, zB_go]
theorem q95_15 (d : Nat) (a0 : Value) (a1 : Value) (a2 : Value) (a3 : Value) (a4 : Value) (a5 : Value) (x : Int32) (l : zL) (st : List Value) (h : zH) : zXf zT znl d 95 15 (a0 :: a1 :: a2 :: a3 :: a4 :: a5 :: .int x :: l) st h = zXf zT znl d 95 17 (a0 :: a1 :: a2 :: a3 :: a4 :: a5 :: .int x :: l) (.int x :: st) h := (zXq (op := oIl 6 17) zT_95 rfl).trans rfl
theorem q95_17 (d : Nat) (lo : zL) (st : List Value) (h : zH) : zXf zT znl d 95 17 lo st h = zXf zT znl d 95 19 lo (.int (nI 7) :: st) h := (zXq (op := oPush 7 19) zT_95 rfl).trans rfl
theorem q95_19 (d : Nat) (lo : zL) (x y : Int32) (st : List Value) (h : zH) : zXf zT znl d 95 19 lo (.int y :: .int x :: st) h = if y ≤ x then zXf zT znl d 95 87 lo st h else zXf zT znl d 95 22 lo st h := (zXq (op := oCGe 87 22) zT_95 rfl).trans (zB_if _ _)
theorem q95_22 (d : Nat) (a0 : Value) (a1 : Value) (a2 : Value) (a3 : Value) (a4 : Value) (x : Int32) (l : zL) (st : List Value) (h : zH) : zXf zT znl d 95 22 (a0 :: a1 :: a2 :: a3 :: a4 :: .int x :: l) st h = zXf zT znl d 95 24 (a0 :: a1 :: a2 :: a3 :: a4 :: .int x :: l) (.int x :: st) h := (zXq (op := oIl 5 24) zT_95 rfl).trans rfl
theorem q95_24 (d : Nat) (lo : zL) (st : List Value) (h : zH) : zXf zT znl d 95 24 lo st h = zXf zT znl d 95 25 lo (.int (nI 0) :: st) h := (zXq (op := oPush 0 25) zT_95 rfl).trans rfl
theorem q95_25 (d : Nat) (lo : zL) (st : List Value) (h : zH) : zXf zT znl d 95 25 lo st h = zXf zT znl d 95 27 lo (.int (nI 6) :: st) h := (zXq (op := oPush 6 27) zT_95 rfl).trans rfl
theorem q95_27 (d : Nat) (lo : zL) (x0 x1 x2 : Value) (h : zH) : zXf zT znl d 95 27 lo [x2, x1, x0] h = (zCf zT znl d 0 [x0, x1, x2] h).bind fun o => zXf zT znl d 95 30 lo (o.1.toList ++ []) o.2 := (zXq (op := oC3 98 0 30) zT_95 rfl).trans (zB_cl rfl rfl)
theorem q95_30 (d : Nat) (lo : zL) (x : Int32) (st : List Value) (h : zH) : zXf zT znl d 95 30 lo (.int x :: st) h = if x = nI 0 then zXf zT znl d 95 87 lo st h else zXf zT znl d 95 33 lo st h := (zXq (op := oEq0 87 33) zT_95 rfl).trans (zB_if _ _)
theorem q95_33 (d : Nat) (lo : zL) (st : List Value) (h : zH) : zXf zT znl d 95 33 lo st h = zXf zT znl d 95 36 lo (.ref 312 :: st) h := (zXq (op := oRefC 312 36) zT_95 rfl).trans rfl
theorem q95_36 (d : Nat) (a0 : Value) (a1 : Value) (a2 : Value) (a3 : Value) (a4 : Value) (x : Int32) (l : zL) (st : List Value) (h : zH) : zXf zT znl d 95 36 (a0 :: a1 :: a2 :: a3 :: a4 :: .int x :: l) st h = zXf zT znl d 95 38 (a0 :: a1 :: a2 :: a3 :: a4 :: .int x :: l) (.int x :: st) h := (zXq (op := oIl 5 38) zT_95 rfl).trans rfl
theorem q95_38 (d : Nat) (lo : zL) (st : List Value) (h : zH) : zXf zT znl d 95 38 lo st h = zXf zT znl d 95 39 lo (.int (nI 4) :: st) h := (zXq (op := oPush 4 39) zT_95 rfl).trans rfl
theorem q95_39 (d : Nat) (lo : zL) (x y : Int32) (st : List Value) (h : zH) : zXf zT znl d 95 39 lo (.int y :: .int x :: st) h = zXf zT znl d 95 40 lo (.int (x * y) :: st) h := (zXq (op := oBin (fun x y => x * y) 40) zT_95 rfl).trans rfl
theorem q95_40 (d : Nat) (a0 : Value) (a1 : Value) (x : Int32) (l : zL) (st : List Value) (h : zH) : zXf zT znl d 95 40 (a0 :: a1 :: .int x :: l) st h = zXf zT znl d 95 41 (a0 :: a1 :: .int x :: l) (.int x :: st) h := (zXq (op := oIl 2 41) zT_95 rfl).trans rfl
theorem q95_41 (d : Nat) (lo : zL) (x y : Int32) (st : List Value) (h : zH) : zXf zT znl d 95 41 lo (.int y :: .int x :: st) h = zXf zT znl d 95 42 lo (.int (x + y) :: st) h := (zXq (op := oBin (fun x y => x + y) 42) zT_95 rfl).trans rfl
theorem q95_42 (d : Nat) (lo : zL) (st : List Value) (h : zH) : zXf zT znl d 95 42 lo st h = zB zT znl d 95 (oIald 43 lo st h) := zXq (op := oIald 43) zT_95 rfl
theorem q95_43 (d : Nat) (a0 : Value) (a1 : Value) (a2 : Value) (a3 : Value) (a4 : Value) (a5 : Value) (a6 : Value) (a7 : Value) (x : Int32) (l : zL) (st : List Value) (h : zH) (hz : zokv a6 = true) : zXf zT znl d 95 43 (a0 :: a1 :: a2 :: a3 :: a4 :: a5 :: a6 :: a7 :: l) (.int x :: st) h = zXf zT znl d 95 45 (a0 :: a1 :: a2 :: a3 :: a4 :: a5 :: a6 :: .int x :: l) st h := by
  refine (zXq (op := oIs 7 45) zT_95 rfl).trans ?_
  simp only [oIs, zok, hz, Bool.and_self, if_true, List.set_cons_succ, List.set_cons_zero, zB_go]
theorem q95_45 (d : Nat) (a0 : Value) (a1 : Value) (a2 : Value) (a3 : Value) (a4 : Value) (a5 : Value) (a6 : Value) (x : Int32) (l : zL) (st : List Value) (h : zH) : zXf zT znl d 95 45 (a0 :: a1 :: a2 :: a3 :: a4 :: a5 :: a6 :: .int x :: l) st h = zXf zT znl d 95 47 (a0 :: a1 :: a2 :: a3 :: a4 :: a5 :: a6 :: .int x :: l) (.int x :: st) h := (zXq (op := oIl 7 47) zT_95 rfl).trans rfl
theorem q95_47 (d : Nat) (lo : zL) (x : Int32) (st : List Value) (h : zH) : zXf zT znl d 95 47 lo (.int x :: st) h = if x = nI 0 then zXf zT znl d 95 73 lo st h else zXf zT znl d 95 50 lo st h := (zXq (op := oEq0 73 50) zT_95 rfl).trans (zB_if _ _)
theorem q95_50 (d : Nat) (a0 : Value) (a1 : Value) (a2 : Value) (a3 : Value) (x : Int32) (l : zL) (st : List Value) (h : zH) : zXf zT znl d 95 50 (a0 :: a1 :: a2 :: a3 :: .int x :: l) st h = zXf zT znl d 95 52 (a0 :: a1 :: a2 :: a3 :: .int x :: l) (.int x :: st) h := (zXq (op := oIl 4 52) zT_95 rfl).trans rfl
theorem q95_52 (d : Nat) (lo : zL) (st : List Value) (h : zH) : zXf zT znl d 95 52 lo st h = zXf zT znl d 95 54 lo (.int (nI 40) :: st) h := (zXq (op := oPush 40 54) zT_95 rfl).trans rfl
theorem q95_54 (d : Nat) (lo : zL) (x y : Int32) (st : List Value) (h : zH) : zXf zT znl d 95 54 lo (.int y :: .int x :: st) h = if y ≤ x then zXf zT znl d 95 71 lo st h else zXf zT znl d 95 57 lo st h := (zXq (op := oCGe 71 57) zT_95 rfl).trans (zB_if _ _)
theorem q95_57 (d : Nat) (x : Nat) (l : zL) (st : List Value) (h : zH) : zXf zT znl d 95 57 (.ref x :: l) st h = zXf zT znl d 95 58 (.ref x :: l) (.ref x :: st) h := (zXq (op := oAl 0 58) zT_95 rfl).trans rfl
theorem q95_58 (d : Nat) (a0 : Value) (a1 : Value) (a2 : Value) (a3 : Value) (a4 : Value) (a5 : Value) (a6 : Value) (x : Int32) (l : zL) (st : List Value) (h : zH) : zXf zT znl d 95 58 (a0 :: a1 :: a2 :: a3 :: a4 :: a5 :: a6 :: .int x :: l) st h = zXf zT znl d 95 60 (a0 :: a1 :: a2 :: a3 :: a4 :: a5 :: a6 :: .int x :: l) (.int x :: st) h := (zXq (op := oIl 7 60) zT_95 rfl).trans rfl
theorem q95_60 (d : Nat) (a0 : Value) (a1 : Value) (a2 : Value) (x : Int32) (l : zL) (st : List Value) (h : zH) : zXf zT znl d 95 60 (a0 :: a1 :: a2 :: .int x :: l) st h = zXf zT znl d 95 61 (a0 :: a1 :: a2 :: .int x :: l) (.int x :: st) h := (zXq (op := oIl 3 61) zT_95 rfl).trans rfl
theorem q95_61 (d : Nat) (a0 : Value) (a1 : Value) (a2 : Value) (a3 : Value) (x : Int32) (l : zL) (st : List Value) (h : zH) : zXf zT znl d 95 61 (a0 :: a1 :: a2 :: a3 :: .int x :: l) st h = zXf zT znl d 95 63 (a0 :: a1 :: a2 :: a3 :: .int x :: l) (.int x :: st) h := (zXq (op := oIl 4 63) zT_95 rfl).trans rfl
theorem q95_63 (d : Nat) (lo : zL) (st : List Value) (h : zH) : zXf zT znl d 95 63 lo st h = zXf zT znl d 95 64 lo (.int (nI 1) :: st) h := (zXq (op := oPush 1 64) zT_95 rfl).trans rfl
theorem q95_64 (d : Nat) (lo : zL) (x y : Int32) (st : List Value) (h : zH) : zXf zT znl d 95 64 lo (.int y :: .int x :: st) h = zXf zT znl d 95 65 lo (.int (x + y) :: st) h := (zXq (op := oBin (fun x y => x + y) 65) zT_95 rfl).trans rfl
theorem q95_65 (d : Nat) (lo : zL) (x0 x1 x2 x3 : Value) (h : zH) (hr : zrc 3 [x0, x1, x2, x3] = true) : zXf zT znl d 95 65 lo [x3, x2, x1, x0] h = (zCf zT znl d 97 [x0, x1, x2, x3] h).bind fun o => zXf zT znl d 95 68 lo (o.1.toList ++ []) o.2 := (zXq (op := oC4 3 97 68) zT_95 rfl).trans (zB_cl rfl hr)
theorem q95_68 (d : Nat) (lo : zL) (st : List Value) (h : zH) : zXf zT znl d 95 68 lo st h = zXf zT znl d 95 72 lo st h := (zXq (op := oGoto 72) zT_95 rfl).trans rfl
theorem q95_71 (d : Nat) (lo : zL) (st : List Value) (h : zH) : zXf zT znl d 95 71 lo st h = zXf zT znl d 95 72 lo (.int (nI 0) :: st) h := (zXq (op := oPush 0 72) zT_95 rfl).trans rfl
theorem q95_72 (d : Nat) (lo : zL) (x : Int32) (h : zH) : zXf zT znl d 95 72 lo [.int x] h = some (some (.int x), h) := (zXq (op := oIret) zT_95 rfl).trans rfl
theorem q95_73 (d : Nat) (lo : zL) (st : List Value) (h : zH) : zXf zT znl d 95 73 lo st h = zXf zT znl d 95 76 lo (.ref 309 :: st) h := (zXq (op := oRefC 309 76) zT_95 rfl).trans rfl
theorem q95_76 (d : Nat) (a0 : Value) (a1 : Value) (a2 : Value) (a3 : Value) (a4 : Value) (x : Int32) (l : zL) (st : List Value) (h : zH) : zXf zT znl d 95 76 (a0 :: a1 :: a2 :: a3 :: a4 :: .int x :: l) st h = zXf zT znl d 95 78 (a0 :: a1 :: a2 :: a3 :: a4 :: .int x :: l) (.int x :: st) h := (zXq (op := oIl 5 78) zT_95 rfl).trans rfl
theorem q95_78 (d : Nat) (lo : zL) (st : List Value) (h : zH) : zXf zT znl d 95 78 lo st h = zB zT znl d 95 (oIald 79 lo st h) := zXq (op := oIald 79) zT_95 rfl
theorem q95_79 (d : Nat) (a0 : Value) (a1 : Value) (a2 : Value) (a3 : Value) (a4 : Value) (a5 : Value) (x : Int32) (l : zL) (st : List Value) (h : zH) (hz : zokv a4 = true) : zXf zT znl d 95 79 (a0 :: a1 :: a2 :: a3 :: a4 :: a5 :: l) (.int x :: st) h = zXf zT znl d 95 81 (a0 :: a1 :: a2 :: a3 :: a4 :: .int x :: l) st h := by
  refine (zXq (op := oIs 5 81) zT_95 rfl).trans ?_
  simp only [oIs, zok, hz, Bool.and_self, if_true, List.set_cons_succ, List.set_cons_zero, zB_go]
theorem q95_81 (d : Nat) (a0 : Value) (a1 : Value) (a2 : Value) (a3 : Value) (a4 : Value) (a5 : Value) (x : Int32) (l : zL) (st : List Value) (h : zH) (hz : zokv a5 = true) : zXf zT znl d 95 81 (a0 :: a1 :: a2 :: a3 :: a4 :: a5 :: .int x :: l) st h = zXf zT znl d 95 84 (a0 :: a1 :: a2 :: a3 :: a4 :: a5 :: .int (x + nI 1) :: l) st h := by
  refine (zXq (op := oInc 6 1 84) zT_95 rfl).trans ?_
  simp only [oInc, List.getElem?_cons_succ, List.getElem?_cons_zero, zok, hz, Bool.and_self, if_true, List.set_cons_succ, List.set_cons_zero, zB_go]
  try rfl
theorem q95_84 (d : Nat) (lo : zL) (st : List Value) (h : zH) : zXf zT znl d 95 84 lo st h = zXf zT znl d 95 15 lo st h := (zXq (op := oGoto 15) zT_95 rfl).trans rfl
theorem q95_87 (d : Nat) (lo : zL) (st : List Value) (h : zH) : zXf zT znl d 95 87 lo st h = zXf zT znl d 95 88 lo (.int (nI 0) :: st) h := (zXq (op := oPush 0 88) zT_95 rfl).trans rfl
theorem q95_88 (d : Nat) (lo : zL) (x : Int32) (h : zH) : zXf zT znl d 95 88 lo [.int x] h = some (some (.int x), h) := (zXq (op := oIret) zT_95 rfl).trans rfl
theorem q96_0 (d : Nat) (x : Nat) (l : zL) (st : List Value) (h : zH) : zXf zT znl d 96 0 (.ref x :: l) st h = zXf zT znl d 96 1 (.ref x :: l) (.ref x :: st) h := (zXq (op := oAl 0 1) zT_96 rfl).trans rfl
theorem q96_1 (d : Nat) (x : Nat) (l : zL) (st : List Value) (h : zH) : zXf zT znl d 96 1 (.ref x :: l) st h = zXf zT znl d 96 2 (.ref x :: l) (.ref x :: st) h := (zXq (op := oAl 0 2) zT_96 rfl).trans rfl
theorem q96_2 (d : Nat) (lo : zL) (st : List Value) (h : zH) : zXf zT znl d 96 2 lo st h = zB zT znl d 96 (oGf 3 3 5 lo st h) := zXq (op := oGf 3 3 5) zT_96 rfl
theorem q96_5 (d : Nat) (a0 : Value) (x : Int32) (l : zL) (st : List Value) (h : zH) : zXf zT znl d 96 5 (a0 :: .int x :: l) st h = zXf zT znl d 96 6 (a0 :: .int x :: l) (.int x :: st) h := (zXq (op := oIl 1 6) zT_96 rfl).trans rfl
theorem q96_6 (d : Nat) (a0 : Value) (a1 : Value) (x : Int32) (l : zL) (st : List Value) (h : zH) : zXf zT znl d 96 6 (a0 :: a1 :: .int x :: l) st h = zXf zT znl d 96 7 (a0 :: a1 :: .int x :: l) (.int x :: st) h := (zXq (op := oIl 2 7) zT_96 rfl).trans rfl
theorem q96_7 (d : Nat) (a0 : Value) (a1 : Value) (a2 : Value) (x : Int32) (l : zL) (st : List Value) (h : zH) : zXf zT znl d 96 7 (a0 :: a1 :: a2 :: .int x :: l) st h = zXf zT znl d 96 8 (a0 :: a1 :: a2 :: .int x :: l) (.int x :: st) h := (zXq (op := oIl 3 8) zT_96 rfl).trans rfl
theorem q96_8 (d : Nat) (lo : zL) (x0 x1 x2 x3 x4 : Value) (h : zH) (hr : zrc 3 [x0, x1, x2, x3, x4] = true) : zXf zT znl d 96 8 lo [x4, x3, x2, x1, x0] h = (zCf zT znl d 95 [x0, x1, x2, x3, x4] h).bind fun o => zXf zT znl d 96 11 lo (o.1.toList ++ []) o.2 := (zXq (op := oC5 3 95 11) zT_96 rfl).trans (zB_cl rfl hr)
theorem q96_11 (d : Nat) (lo : zL) (x : Int32) (h : zH) : zXf zT znl d 96 11 lo [.int x] h = some (some (.int x), h) := (zXq (op := oIret) zT_96 rfl).trans rfl
theorem q97_0 (d : Nat) (x : Nat) (l : zL) (st : List Value) (h : zH) : zXf zT znl d 97 0 (.ref x :: l) st h = zXf zT znl d 97 1 (.ref x :: l) (.ref x :: st) h := (zXq (op := oAl 0 1) zT_97 rfl).trans rfl
theorem q97_1 (d : Nat) (a0 : Value) (x : Int32) (l : zL) (st : List Value) (h : zH) : zXf zT znl d 97 1 (a0 :: .int x :: l) st h = zXf zT znl d 97 2 (a0 :: .int x :: l) (.int x :: st) h := (zXq (op := oIl 1 2) zT_97 rfl).trans rfl
theorem q97_2 (d : Nat) (lo : zL) (x0 x1 : Value) (h : zH) (hr : zrc 3 [x0, x1] = true) : zXf zT znl d 97 2 lo [x1, x0] h = (zCf zT znl d 92 [x0, x1] h).bind fun o => zXf zT znl d 97 5 lo (o.1.toList ++ []) o.2 := (zXq (op := oC2 3 92 5) zT_97 rfl).trans (zB_cl rfl hr)
theorem q97_5 (d : Nat) (a0 : Value) (x : Int32) (l : zL) (st : List Value) (h : zH) : zXf zT znl d 97 5 (a0 :: .int x :: l) st h = zXf zT znl d 97 6 (a0 :: .int x :: l) (.int x :: st) h := (zXq (op := oIl 1 6) zT_97 rfl).trans rfl
theorem q97_6 (d : Nat) (lo : zL) (x : Int32) (st : List Value) (h : zH) : zXf zT znl d 97 6 lo (.int x :: st) h = if x = nI 10 then zXf zT znl d 97 128 lo st h else (if x = nI 11 then zXf zT znl d 97 135 lo st h else (if x = nI 12 then zXf zT znl d 97 145 lo st h else (if x = nI 13 then zXf zT znl d 97 158 lo st h else (if x = nI 20 then zXf zT znl d 97 164 lo st h else (if x = nI 21 then zXf zT znl d 97 175 lo st h else (if x = nI 30 then zXf zT znl d 97 192 lo st h else (if x = nI 40 then zXf zT znl d 97 203 lo st h else (if x = nI 41 then zXf zT znl d 97 214 lo st h else (if x = nI 50 then zXf zT znl d 97 228 lo st h else (if x = nI 60 then zXf zT znl d 97 231 lo st h else (if x = nI 61 then zXf zT znl d 97 242 lo st h else (if x = nI 70 then zXf zT znl d 97 253 lo st h else (if x = nI 71 then zXf zT znl d 97 268 lo st h else (zXf zT znl d 97 286 lo st h)))))))))))))) := by
  refine (zXq (op := oSw [(10, 128), (11, 135), (12, 145), (13, 158), (20, 164), (21, 175), (30, 192), (40, 203), (41, 214), (50, 228), (60, 231), (61, 242), (70, 253), (71, 268)] 286) zT_97 rfl).trans ?_
  simp only [oSw, zsw, zB_if, zB_go]
  try rfl
theorem q97_128 (d : Nat) (a0 : Value) (a1 : Value) (x : Int32) (l : zL) (st : List Value) (h : zH) : zXf zT znl d 97 128 (a0 :: a1 :: .int x :: l) st h = zXf zT znl d 97 129 (a0 :: a1 :: .int x :: l) (.int x :: st) h := (zXq (op := oIl 2 129) zT_97 rfl).trans rfl
theorem q97_129 (d : Nat) (x : Nat) (l : zL) (st : List Value) (h : zH) : zXf zT znl d 97 129 (.ref x :: l) st h = zXf zT znl d 97 130 (.ref x :: l) (.ref x :: st) h := (zXq (op := oAl 0 130) zT_97 rfl).trans rfl
theorem q97_130 (d : Nat) (lo : zL) (st : List Value) (h : zH) : zXf zT znl d 97 130 lo st h = zB zT znl d 97 (oGf 3 5 133 lo st h) := zXq (op := oGf 3 5 133) zT_97 rfl
theorem q97_133 (d : Nat) (lo : zL) (x y : Int32) (st : List Value) (h : zH) : zXf zT znl d 97 133 lo (.int y :: .int x :: st) h = zXf zT znl d 97 134 lo (.int (x + y) :: st) h := (zXq (op := oBin (fun x y => x + y) 134) zT_97 rfl).trans rfl
theorem q97_134 (d : Nat) (lo : zL) (x : Int32) (h : zH) : zXf zT znl d 97 134 lo [.int x] h = some (some (.int x), h) := (zXq (op := oIret) zT_97 rfl).trans rfl
theorem q97_135 (d : Nat) (x : Nat) (l : zL) (st : List Value) (h : zH) : zXf zT znl d 97 135 (.ref x :: l) st h = zXf zT znl d 97 136 (.ref x :: l) (.ref x :: st) h := (zXq (op := oAl 0 136) zT_97 rfl).trans rfl
theorem q97_136 (d : Nat) (lo : zL) (st : List Value) (h : zH) : zXf zT znl d 97 136 lo st h = zXf zT znl d 97 137 lo (.int (nI 0) :: st) h := (zXq (op := oPush 0 137) zT_97 rfl).trans rfl
theorem q97_137 (d : Nat) (a0 : Value) (a1 : Value) (x : Int32) (l : zL) (st : List Value) (h : zH) : zXf zT znl d 97 137 (a0 :: a1 :: .int x :: l) st h = zXf zT znl d 97 138 (a0 :: a1 :: .int x :: l) (.int x :: st) h := (zXq (op := oIl 2 138) zT_97 rfl).trans rfl
theorem q97_138 (d : Nat) (a0 : Value) (a1 : Value) (a2 : Value) (x : Int32) (l : zL) (st : List Value) (h : zH) : zXf zT znl d 97 138 (a0 :: a1 :: a2 :: .int x :: l) st h = zXf zT znl d 97 139 (a0 :: a1 :: a2 :: .int x :: l) (.int x :: st) h := (zXq (op := oIl 3 139) zT_97 rfl).trans rfl
theorem q97_139 (d : Nat) (lo : zL) (x0 x1 x2 x3 : Value) (h : zH) (hr : zrc 3 [x0, x1, x2, x3] = true) : zXf zT znl d 97 139 lo [x3, x2, x1, x0] h = (zCf zT znl d 96 [x0, x1, x2, x3] h).bind fun o => zXf zT znl d 97 142 lo (o.1.toList ++ []) o.2 := (zXq (op := oC4 3 96 142) zT_97 rfl).trans (zB_cl rfl hr)
theorem q97_142 (d : Nat) (lo : zL) (st : List Value) (h : zH) : zXf zT znl d 97 142 lo st h = zXf zT znl d 97 143 lo (.int (nI 2) :: st) h := (zXq (op := oPush 2 143) zT_97 rfl).trans rfl
theorem q97_143 (d : Nat) (lo : zL) (x y : Int32) (st : List Value) (h : zH) : zXf zT znl d 97 143 lo (.int y :: .int x :: st) h = zXf zT znl d 97 144 lo (.int (x * y) :: st) h := (zXq (op := oBin (fun x y => x * y) 144) zT_97 rfl).trans rfl
theorem q97_144 (d : Nat) (lo : zL) (x : Int32) (h : zH) : zXf zT znl d 97 144 lo [.int x] h = some (some (.int x), h) := (zXq (op := oIret) zT_97 rfl).trans rfl
theorem q97_145 (d : Nat) (x : Nat) (l : zL) (st : List Value) (h : zH) : zXf zT znl d 97 145 (.ref x :: l) st h = zXf zT znl d 97 146 (.ref x :: l) (.ref x :: st) h := (zXq (op := oAl 0 146) zT_97 rfl).trans rfl
theorem q97_146 (d : Nat) (lo : zL) (st : List Value) (h : zH) : zXf zT znl d 97 146 lo st h = zXf zT znl d 97 147 lo (.int (nI 1) :: st) h := (zXq (op := oPush 1 147) zT_97 rfl).trans rfl
theorem q97_147 (d : Nat) (a0 : Value) (a1 : Value) (x : Int32) (l : zL) (st : List Value) (h : zH) : zXf zT znl d 97 147 (a0 :: a1 :: .int x :: l) st h = zXf zT znl d 97 148 (a0 :: a1 :: .int x :: l) (.int x :: st) h := (zXq (op := oIl 2 148) zT_97 rfl).trans rfl
theorem q97_148 (d : Nat) (a0 : Value) (a1 : Value) (a2 : Value) (x : Int32) (l : zL) (st : List Value) (h : zH) : zXf zT znl d 97 148 (a0 :: a1 :: a2 :: .int x :: l) st h = zXf zT znl d 97 149 (a0 :: a1 :: a2 :: .int x :: l) (.int x :: st) h := (zXq (op := oIl 3 149) zT_97 rfl).trans rfl
theorem q97_149 (d : Nat) (lo : zL) (x0 x1 x2 x3 : Value) (h : zH) (hr : zrc 3 [x0, x1, x2, x3] = true) : zXf zT znl d 97 149 lo [x3, x2, x1, x0] h = (zCf zT znl d 96 [x0, x1, x2, x3] h).bind fun o => zXf zT znl d 97 152 lo (o.1.toList ++ []) o.2 := (zXq (op := oC4 3 96 152) zT_97 rfl).trans (zB_cl rfl hr)
theorem q97_152 (d : Nat) (x : Nat) (l : zL) (st : List Value) (h : zH) : zXf zT znl d 97 152 (.ref x :: l) st h = zXf zT znl d 97 153 (.ref x :: l) (.ref x :: st) h := (zXq (op := oAl 0 153) zT_97 rfl).trans rfl
theorem q97_153 (d : Nat) (lo : zL) (st : List Value) (h : zH) : zXf zT znl d 97 153 lo st h = zB zT znl d 97 (oGf 3 4 156 lo st h) := zXq (op := oGf 3 4 156) zT_97 rfl
theorem q97_156 (d : Nat) (lo : zL) (x y : Int32) (st : List Value) (h : zH) : zXf zT znl d 97 156 lo (.int y :: .int x :: st) h = zXf zT znl d 97 157 lo (.int (x - y) :: st) h := (zXq (op := oBin (fun x y => x - y) 157) zT_97 rfl).trans rfl
theorem q97_157 (d : Nat) (lo : zL) (x : Int32) (h : zH) : zXf zT znl d 97 157 lo [.int x] h = some (some (.int x), h) := (zXq (op := oIret) zT_97 rfl).trans rfl
theorem q97_158 (d : Nat) (x : Nat) (l : zL) (st : List Value) (h : zH) : zXf zT znl d 97 158 (.ref x :: l) st h = zXf zT znl d 97 159 (.ref x :: l) (.ref x :: st) h := (zXq (op := oAl 0 159) zT_97 rfl).trans rfl
theorem q97_159 (d : Nat) (a0 : Value) (a1 : Value) (x : Int32) (l : zL) (st : List Value) (h : zH) : zXf zT znl d 97 159 (a0 :: a1 :: .int x :: l) st h = zXf zT znl d 97 160 (a0 :: a1 :: .int x :: l) (.int x :: st) h := (zXq (op := oIl 2 160) zT_97 rfl).trans rfl
theorem q97_160 (d : Nat) (lo : zL) (x0 x1 : Value) (h : zH) (hr : zrc 3 [x0, x1] = true) : zXf zT znl d 97 160 lo [x1, x0] h = (zCf zT znl d 93 [x0, x1] h).bind fun o => zXf zT znl d 97 163 lo (o.1.toList ++ []) o.2 := (zXq (op := oC2 3 93 163) zT_97 rfl).trans (zB_cl rfl hr)
theorem q97_163 (d : Nat) (lo : zL) (x : Int32) (h : zH) : zXf zT znl d 97 163 lo [.int x] h = some (some (.int x), h) := (zXq (op := oIret) zT_97 rfl).trans rfl
theorem q97_164 (d : Nat) (x : Nat) (l : zL) (st : List Value) (h : zH) : zXf zT znl d 97 164 (.ref x :: l) st h = zXf zT znl d 97 165 (.ref x :: l) (.ref x :: st) h := (zXq (op := oAl 0 165) zT_97 rfl).trans rfl
theorem q97_165 (d : Nat) (lo : zL) (st : List Value) (h : zH) : zXf zT znl d 97 165 lo st h = zXf zT znl d 97 166 lo (.int (nI 1) :: st) h := (zXq (op := oPush 1 166) zT_97 rfl).trans rfl
theorem q97_166 (d : Nat) (lo : zL) (st : List Value) (h : zH) : zXf zT znl d 97 166 lo st h = zXf zT znl d 97 167 lo (.int (nI 0) :: st) h := (zXq (op := oPush 0 167) zT_97 rfl).trans rfl
theorem q97_167 (d : Nat) (a0 : Value) (a1 : Value) (x : Int32) (l : zL) (st : List Value) (h : zH) : zXf zT znl d 97 167 (a0 :: a1 :: .int x :: l) st h = zXf zT znl d 97 168 (a0 :: a1 :: .int x :: l) (.int x :: st) h := (zXq (op := oIl 2 168) zT_97 rfl).trans rfl
theorem q97_168 (d : Nat) (a0 : Value) (a1 : Value) (a2 : Value) (x : Int32) (l : zL) (st : List Value) (h : zH) : zXf zT znl d 97 168 (a0 :: a1 :: a2 :: .int x :: l) st h = zXf zT znl d 97 169 (a0 :: a1 :: a2 :: .int x :: l) (.int x :: st) h := (zXq (op := oIl 3 169) zT_97 rfl).trans rfl
theorem q97_169 (d : Nat) (lo : zL) (x0 x1 x2 x3 x4 : Value) (h : zH) (hr : zrc 3 [x0, x1, x2, x3, x4] = true) : zXf zT znl d 97 169 lo [x4, x3, x2, x1, x0] h = (zCf zT znl d 94 [x0, x1, x2, x3, x4] h).bind fun o => zXf zT znl d 97 172 lo (o.1.toList ++ []) o.2 := (zXq (op := oC5 3 94 172) zT_97 rfl).trans (zB_cl rfl hr)
theorem q97_172 (d : Nat) (lo : zL) (st : List Value) (h : zH) : zXf zT znl d 97 172 lo st h = zXf zT znl d 97 173 lo (.int (nI 4) :: st) h := (zXq (op := oPush 4 173) zT_97 rfl).trans rfl
theorem q97_173 (d : Nat) (lo : zL) (x y : Int32) (st : List Value) (h : zH) : zXf zT znl d 97 173 lo (.int y :: .int x :: st) h = zXf zT znl d 97 174 lo (.int (x - y) :: st) h := (zXq (op := oBin (fun x y => x - y) 174) zT_97 rfl).trans rfl
theorem q97_174 (d : Nat) (lo : zL) (x : Int32) (h : zH) : zXf zT znl d 97 174 lo [.int x] h = some (some (.int x), h) := (zXq (op := oIret) zT_97 rfl).trans rfl
theorem q97_175 (d : Nat) (x : Nat) (l : zL) (st : List Value) (h : zH) : zXf zT znl d 97 175 (.ref x :: l) st h = zXf zT znl d 97 176 (.ref x :: l) (.ref x :: st) h := (zXq (op := oAl 0 176) zT_97 rfl).trans rfl
theorem q97_176 (d : Nat) (lo : zL) (st : List Value) (h : zH) : zXf zT znl d 97 176 lo st h = zXf zT znl d 97 177 lo (.int (nI 1) :: st) h := (zXq (op := oPush 1 177) zT_97 rfl).trans rfl
theorem q97_177 (d : Nat) (lo : zL) (st : List Value) (h : zH) : zXf zT znl d 97 177 lo st h = zXf zT znl d 97 178 lo (.int (nI 3) :: st) h := (zXq (op := oPush 3 178) zT_97 rfl).trans rfl
theorem q97_178 (d : Nat) (a0 : Value) (a1 : Value) (x : Int32) (l : zL) (st : List Value) (h : zH) : zXf zT znl d 97 178 (a0 :: a1 :: .int x :: l) st h = zXf zT znl d 97 179 (a0 :: a1 :: .int x :: l) (.int x :: st) h := (zXq (op := oIl 2 179) zT_97 rfl).trans rfl
theorem q97_179 (d : Nat) (a0 : Value) (a1 : Value) (a2 : Value) (x : Int32) (l : zL) (st : List Value) (h : zH) : zXf zT znl d 97 179 (a0 :: a1 :: a2 :: .int x :: l) st h = zXf zT znl d 97 180 (a0 :: a1 :: a2 :: .int x :: l) (.int x :: st) h := (zXq (op := oIl 3 180) zT_97 rfl).trans rfl
theorem q97_180 (d : Nat) (lo : zL) (x0 x1 x2 x3 x4 : Value) (h : zH) (hr : zrc 3 [x0, x1, x2, x3, x4] = true) : zXf zT znl d 97 180 lo [x4, x3, x2, x1, x0] h = (zCf zT znl d 94 [x0, x1, x2, x3, x4] h).bind fun o => zXf zT znl d 97 183 lo (o.1.toList ++ []) o.2 := (zXq (op := oC5 3 94 183) zT_97 rfl).trans (zB_cl rfl hr)
theorem q97_183 (d : Nat) (x : Nat) (l : zL) (st : List Value) (h : zH) : zXf zT znl d 97 183 (.ref x :: l) st h = zXf zT znl d 97 184 (.ref x :: l) (.ref x :: st) h := (zXq (op := oAl 0 184) zT_97 rfl).trans rfl
theorem q97_184 (d : Nat) (lo : zL) (st : List Value) (h : zH) : zXf zT znl d 97 184 lo st h = zXf zT znl d 97 185 lo (.int (nI 1) :: st) h := (zXq (op := oPush 1 185) zT_97 rfl).trans rfl
theorem q97_185 (d : Nat) (lo : zL) (st : List Value) (h : zH) : zXf zT znl d 97 185 lo st h = zXf zT znl d 97 186 lo (.int (nI 1) :: st) h := (zXq (op := oPush 1 186) zT_97 rfl).trans rfl
theorem q97_186 (d : Nat) (a0 : Value) (a1 : Value) (a2 : Value) (x : Int32) (l : zL) (st : List Value) (h : zH) : zXf zT znl d 97 186 (a0 :: a1 :: a2 :: .int x :: l) st h = zXf zT znl d 97 187 (a0 :: a1 :: a2 :: .int x :: l) (.int x :: st) h := (zXq (op := oIl 3 187) zT_97 rfl).trans rfl
theorem q97_187 (d : Nat) (lo : zL) (x0 x1 x2 x3 s0 : Value) (h : zH) (hr : zrc 3 [x0, x1, x2, x3] = true) : zXf zT znl d 97 187 lo [x3, x2, x1, x0, s0] h = (zCf zT znl d 96 [x0, x1, x2, x3] h).bind fun o => zXf zT znl d 97 190 lo (o.1.toList ++ [s0]) o.2 := (zXq (op := oC4 3 96 190) zT_97 rfl).trans (zB_cl rfl hr)
theorem q97_190 (d : Nat) (lo : zL) (x y : Int32) (st : List Value) (h : zH) : zXf zT znl d 97 190 lo (.int y :: .int x :: st) h = zXf zT znl d 97 191 lo (.int (x + y) :: st) h := (zXq (op := oBin (fun x y => x + y) 191) zT_97 rfl).trans rfl
theorem q97_191 (d : Nat) (lo : zL) (x : Int32) (h : zH) : zXf zT znl d 97 191 lo [.int x] h = some (some (.int x), h) := (zXq (op := oIret) zT_97 rfl).trans rfl
theorem q97_192 (d : Nat) (lo : zL) (st : List Value) (h : zH) : zXf zT znl d 97 192 lo st h = zXf zT znl d 97 193 lo (.int (nI 0) :: st) h := (zXq (op := oPush 0 193) zT_97 rfl).trans rfl
theorem q97_193 (d : Nat) (x : Nat) (l : zL) (st : List Value) (h : zH) : zXf zT znl d 97 193 (.ref x :: l) st h = zXf zT znl d 97 194 (.ref x :: l) (.ref x :: st) h := (zXq (op := oAl 0 194) zT_97 rfl).trans rfl
theorem q97_194 (d : Nat) (lo : zL) (st : List Value) (h : zH) : zXf zT znl d 97 194 lo st h = zXf zT znl d 97 195 lo (.int (nI 2) :: st) h := (zXq (op := oPush 2 195) zT_97 rfl).trans rfl
theorem q97_195 (d : Nat) (lo : zL) (st : List Value) (h : zH) : zXf zT znl d 97 195 lo st h = zXf zT znl d 97 196 lo (.int (nI 1) :: st) h := (zXq (op := oPush 1 196) zT_97 rfl).trans rfl
theorem q97_196 (d : Nat) (a0 : Value) (a1 : Value) (x : Int32) (l : zL) (st : List Value) (h : zH) : zXf zT znl d 97 196 (a0 :: a1 :: .int x :: l) st h = zXf zT znl d 97 197 (a0 :: a1 :: .int x :: l) (.int x :: st) h := (zXq (op := oIl 2 197) zT_97 rfl).trans rfl
theorem q97_197 (d : Nat) (a0 : Value) (a1 : Value) (a2 : Value) (x : Int32) (l : zL) (st : List Value) (h : zH) : zXf zT znl d 97 197 (a0 :: a1 :: a2 :: .int x :: l) st h = zXf zT znl d 97 198 (a0 :: a1 :: a2 :: .int x :: l) (.int x :: st) h := (zXq (op := oIl 3 198) zT_97 rfl).trans rfl
theorem q97_198 (d : Nat) (lo : zL) (x0 x1 x2 x3 x4 s0 : Value) (h : zH) (hr : zrc 3 [x0, x1, x2, x3, x4] = true) : zXf zT znl d 97 198 lo [x4, x3, x2, x1, x0, s0] h = (zCf zT znl d 94 [x0, x1, x2, x3, x4] h).bind fun o => zXf zT znl d 97 201 lo (o.1.toList ++ [s0]) o.2 := (zXq (op := oC5 3 94 201) zT_97 rfl).trans (zB_cl rfl hr)
theorem q97_201 (d : Nat) (lo : zL) (x y : Int32) (st : List Value) (h : zH) : zXf zT znl d 97 201 lo (.int y :: .int x :: st) h = zXf zT znl d 97 202 lo (.int (x - y) :: st) h := (zXq (op := oBin (fun x y => x - y) 202) zT_97 rfl).trans rfl
theorem q97_202 (d : Nat) (lo : zL) (x : Int32) (h : zH) : zXf zT znl d 97 202 lo [.int x] h = some (some (.int x), h) := (zXq (op := oIret) zT_97 rfl).trans rfl
theorem q97_203 (d : Nat) (x : Nat) (l : zL) (st : List Value) (h : zH) : zXf zT znl d 97 203 (.ref x :: l) st h = zXf zT znl d 97 204 (.ref x :: l) (.ref x :: st) h := (zXq (op := oAl 0 204) zT_97 rfl).trans rfl
theorem q97_204 (d : Nat) (lo : zL) (st : List Value) (h : zH) : zXf zT znl d 97 204 lo st h = zXf zT znl d 97 205 lo (.int (nI 3) :: st) h := (zXq (op := oPush 3 205) zT_97 rfl).trans rfl
theorem q97_205 (d : Nat) (lo : zL) (st : List Value) (h : zH) : zXf zT znl d 97 205 lo st h = zXf zT znl d 97 206 lo (.int (nI 2) :: st) h := (zXq (op := oPush 2 206) zT_97 rfl).trans rfl
theorem q97_206 (d : Nat) (a0 : Value) (a1 : Value) (x : Int32) (l : zL) (st : List Value) (h : zH) : zXf zT znl d 97 206 (a0 :: a1 :: .int x :: l) st h = zXf zT znl d 97 207 (a0 :: a1 :: .int x :: l) (.int x :: st) h := (zXq (op := oIl 2 207) zT_97 rfl).trans rfl
theorem q97_207 (d : Nat) (lo : zL) (st : List Value) (h : zH) : zXf zT znl d 97 207 lo st h = zXf zT znl d 97 208 lo (.int (nI 2) :: st) h := (zXq (op := oPush 2 208) zT_97 rfl).trans rfl
theorem q97_208 (d : Nat) (lo : zL) (x y : Int32) (st : List Value) (h : zH) (hy : ¬ y = 0) : zXf zT znl d 97 208 lo (.int y :: .int x :: st) h = zXf zT znl d 97 209 lo (.int (x / y) :: st) h := by
  refine (zXq (op := oDiv 209) zT_97 rfl).trans ?_
  simp only [oDiv, if_neg hy, zB_go]
theorem q97_209 (d : Nat) (a0 : Value) (a1 : Value) (a2 : Value) (x : Int32) (l : zL) (st : List Value) (h : zH) : zXf zT znl d 97 209 (a0 :: a1 :: a2 :: .int x :: l) st h = zXf zT znl d 97 210 (a0 :: a1 :: a2 :: .int x :: l) (.int x :: st) h := (zXq (op := oIl 3 210) zT_97 rfl).trans rfl
theorem q97_210 (d : Nat) (lo : zL) (x0 x1 x2 x3 x4 : Value) (h : zH) (hr : zrc 3 [x0, x1, x2, x3, x4] = true) : zXf zT znl d 97 210 lo [x4, x3, x2, x1, x0] h = (zCf zT znl d 94 [x0, x1, x2, x3, x4] h).bind fun o => zXf zT znl d 97 213 lo (o.1.toList ++ []) o.2 := (zXq (op := oC5 3 94 213) zT_97 rfl).trans (zB_cl rfl hr)
theorem q97_213 (d : Nat) (lo : zL) (x : Int32) (h : zH) : zXf zT znl d 97 213 lo [.int x] h = some (some (.int x), h) := (zXq (op := oIret) zT_97 rfl).trans rfl
theorem q97_214 (d : Nat) (x : Nat) (l : zL) (st : List Value) (h : zH) : zXf zT znl d 97 214 (.ref x :: l) st h = zXf zT znl d 97 215 (.ref x :: l) (.ref x :: st) h := (zXq (op := oAl 0 215) zT_97 rfl).trans rfl
theorem q97_215 (d : Nat) (lo : zL) (st : List Value) (h : zH) : zXf zT znl d 97 215 lo st h = zXf zT znl d 97 216 lo (.int (nI 3) :: st) h := (zXq (op := oPush 3 216) zT_97 rfl).trans rfl
theorem q97_216 (d : Nat) (lo : zL) (st : List Value) (h : zH) : zXf zT znl d 97 216 lo st h = zXf zT znl d 97 217 lo (.int (nI 0) :: st) h := (zXq (op := oPush 0 217) zT_97 rfl).trans rfl
theorem q97_217 (d : Nat) (a0 : Value) (a1 : Value) (x : Int32) (l : zL) (st : List Value) (h : zH) : zXf zT znl d 97 217 (a0 :: a1 :: .int x :: l) st h = zXf zT znl d 97 218 (a0 :: a1 :: .int x :: l) (.int x :: st) h := (zXq (op := oIl 2 218) zT_97 rfl).trans rfl
theorem q97_218 (d : Nat) (a0 : Value) (a1 : Value) (a2 : Value) (x : Int32) (l : zL) (st : List Value) (h : zH) : zXf zT znl d 97 218 (a0 :: a1 :: a2 :: .int x :: l) st h = zXf zT znl d 97 219 (a0 :: a1 :: a2 :: .int x :: l) (.int x :: st) h := (zXq (op := oIl 3 219) zT_97 rfl).trans rfl
theorem q97_219 (d : Nat) (lo : zL) (x0 x1 x2 x3 x4 : Value) (h : zH) (hr : zrc 3 [x0, x1, x2, x3, x4] = true) : zXf zT znl d 97 219 lo [x4, x3, x2, x1, x0] h = (zCf zT znl d 94 [x0, x1, x2, x3, x4] h).bind fun o => zXf zT znl d 97 222 lo (o.1.toList ++ []) o.2 := (zXq (op := oC5 3 94 222) zT_97 rfl).trans (zB_cl rfl hr)
theorem q97_222 (d : Nat) (x : Nat) (l : zL) (st : List Value) (h : zH) : zXf zT znl d 97 222 (.ref x :: l) st h = zXf zT znl d 97 223 (.ref x :: l) (.ref x :: st) h := (zXq (op := oAl 0 223) zT_97 rfl).trans rfl
theorem q97_223 (d : Nat) (lo : zL) (st : List Value) (h : zH) : zXf zT znl d 97 223 lo st h = zB zT znl d 97 (oGf 3 5 226 lo st h) := zXq (op := oGf 3 5 226) zT_97 rfl
theorem q97_226 (d : Nat) (lo : zL) (x y : Int32) (st : List Value) (h : zH) : zXf zT znl d 97 226 lo (.int y :: .int x :: st) h = zXf zT znl d 97 227 lo (.int (x ^^^ y) :: st) h := (zXq (op := oBin (fun x y => x ^^^ y) 227) zT_97 rfl).trans rfl
theorem q97_227 (d : Nat) (lo : zL) (x : Int32) (h : zH) : zXf zT znl d 97 227 lo [.int x] h = some (some (.int x), h) := (zXq (op := oIret) zT_97 rfl).trans rfl
theorem q97_228 (d : Nat) (lo : zL) (st : List Value) (h : zH) : zXf zT znl d 97 228 lo st h = zXf zT znl d 97 230 lo (.int (nI 8) :: st) h := (zXq (op := oPush 8 230) zT_97 rfl).trans rfl
theorem q97_230 (d : Nat) (lo : zL) (x : Int32) (h : zH) : zXf zT znl d 97 230 lo [.int x] h = some (some (.int x), h) := (zXq (op := oIret) zT_97 rfl).trans rfl
theorem q97_231 (d : Nat) (x : Nat) (l : zL) (st : List Value) (h : zH) : zXf zT znl d 97 231 (.ref x :: l) st h = zXf zT znl d 97 232 (.ref x :: l) (.ref x :: st) h := (zXq (op := oAl 0 232) zT_97 rfl).trans rfl
theorem q97_232 (d : Nat) (lo : zL) (st : List Value) (h : zH) : zXf zT znl d 97 232 lo st h = zXf zT znl d 97 233 lo (.int (nI 5) :: st) h := (zXq (op := oPush 5 233) zT_97 rfl).trans rfl
theorem q97_233 (d : Nat) (lo : zL) (st : List Value) (h : zH) : zXf zT znl d 97 233 lo st h = zXf zT znl d 97 234 lo (.int (nI 1) :: st) h := (zXq (op := oPush 1 234) zT_97 rfl).trans rfl
theorem q97_234 (d : Nat) (a0 : Value) (a1 : Value) (x : Int32) (l : zL) (st : List Value) (h : zH) : zXf zT znl d 97 234 (a0 :: a1 :: .int x :: l) st h = zXf zT znl d 97 235 (a0 :: a1 :: .int x :: l) (.int x :: st) h := (zXq (op := oIl 2 235) zT_97 rfl).trans rfl
theorem q97_235 (d : Nat) (lo : zL) (st : List Value) (h : zH) : zXf zT znl d 97 235 lo st h = zXf zT znl d 97 236 lo (.int (nI 1) :: st) h := (zXq (op := oPush 1 236) zT_97 rfl).trans rfl
theorem q97_236 (d : Nat) (lo : zL) (x y : Int32) (st : List Value) (h : zH) : zXf zT znl d 97 236 lo (.int y :: .int x :: st) h = zXf zT znl d 97 237 lo (.int (x + y) :: st) h := (zXq (op := oBin (fun x y => x + y) 237) zT_97 rfl).trans rfl
theorem q97_237 (d : Nat) (a0 : Value) (a1 : Value) (a2 : Value) (x : Int32) (l : zL) (st : List Value) (h : zH) : zXf zT znl d 97 237 (a0 :: a1 :: a2 :: .int x :: l) st h = zXf zT znl d 97 238 (a0 :: a1 :: a2 :: .int x :: l) (.int x :: st) h := (zXq (op := oIl 3 238) zT_97 rfl).trans rfl
theorem q97_238 (d : Nat) (lo : zL) (x0 x1 x2 x3 x4 : Value) (h : zH) (hr : zrc 3 [x0, x1, x2, x3, x4] = true) : zXf zT znl d 97 238 lo [x4, x3, x2, x1, x0] h = (zCf zT znl d 94 [x0, x1, x2, x3, x4] h).bind fun o => zXf zT znl d 97 241 lo (o.1.toList ++ []) o.2 := (zXq (op := oC5 3 94 241) zT_97 rfl).trans (zB_cl rfl hr)
theorem q97_241 (d : Nat) (lo : zL) (x : Int32) (h : zH) : zXf zT znl d 97 241 lo [.int x] h = some (some (.int x), h) := (zXq (op := oIret) zT_97 rfl).trans rfl
theorem q97_242 (d : Nat) (x : Nat) (l : zL) (st : List Value) (h : zH) : zXf zT znl d 97 242 (.ref x :: l) st h = zXf zT znl d 97 243 (.ref x :: l) (.ref x :: st) h := (zXq (op := oAl 0 243) zT_97 rfl).trans rfl
theorem q97_243 (d : Nat) (lo : zL) (st : List Value) (h : zH) : zXf zT znl d 97 243 lo st h = zXf zT znl d 97 244 lo (.int (nI 5) :: st) h := (zXq (op := oPush 5 244) zT_97 rfl).trans rfl
theorem q97_244 (d : Nat) (lo : zL) (st : List Value) (h : zH) : zXf zT znl d 97 244 lo st h = zXf zT znl d 97 245 lo (.int (nI 2) :: st) h := (zXq (op := oPush 2 245) zT_97 rfl).trans rfl
theorem q97_245 (d : Nat) (a0 : Value) (a1 : Value) (x : Int32) (l : zL) (st : List Value) (h : zH) : zXf zT znl d 97 245 (a0 :: a1 :: .int x :: l) st h = zXf zT znl d 97 246 (a0 :: a1 :: .int x :: l) (.int x :: st) h := (zXq (op := oIl 2 246) zT_97 rfl).trans rfl
theorem q97_246 (d : Nat) (a0 : Value) (a1 : Value) (a2 : Value) (x : Int32) (l : zL) (st : List Value) (h : zH) : zXf zT znl d 97 246 (a0 :: a1 :: a2 :: .int x :: l) st h = zXf zT znl d 97 247 (a0 :: a1 :: a2 :: .int x :: l) (.int x :: st) h := (zXq (op := oIl 3 247) zT_97 rfl).trans rfl
theorem q97_247 (d : Nat) (lo : zL) (x0 x1 x2 x3 x4 : Value) (h : zH) (hr : zrc 3 [x0, x1, x2, x3, x4] = true) : zXf zT znl d 97 247 lo [x4, x3, x2, x1, x0] h = (zCf zT znl d 94 [x0, x1, x2, x3, x4] h).bind fun o => zXf zT znl d 97 250 lo (o.1.toList ++ []) o.2 := (zXq (op := oC5 3 94 250) zT_97 rfl).trans (zB_cl rfl hr)
theorem q97_250 (d : Nat) (lo : zL) (st : List Value) (h : zH) : zXf zT znl d 97 250 lo st h = zXf zT znl d 97 251 lo (.int (nI 3) :: st) h := (zXq (op := oPush 3 251) zT_97 rfl).trans rfl
theorem q97_251 (d : Nat) (lo : zL) (x y : Int32) (st : List Value) (h : zH) : zXf zT znl d 97 251 lo (.int y :: .int x :: st) h = zXf zT znl d 97 252 lo (.int (x * y) :: st) h := (zXq (op := oBin (fun x y => x * y) 252) zT_97 rfl).trans rfl
theorem q97_252 (d : Nat) (lo : zL) (x : Int32) (h : zH) : zXf zT znl d 97 252 lo [.int x] h = some (some (.int x), h) := (zXq (op := oIret) zT_97 rfl).trans rfl
theorem q97_253 (d : Nat) (x : Nat) (l : zL) (st : List Value) (h : zH) : zXf zT znl d 97 253 (.ref x :: l) st h = zXf zT znl d 97 254 (.ref x :: l) (.ref x :: st) h := (zXq (op := oAl 0 254) zT_97 rfl).trans rfl
theorem q97_254 (d : Nat) (lo : zL) (st : List Value) (h : zH) : zXf zT znl d 97 254 lo st h = zXf zT znl d 97 256 lo (.int (nI 6) :: st) h := (zXq (op := oPush 6 256) zT_97 rfl).trans rfl
theorem q97_256 (d : Nat) (lo : zL) (st : List Value) (h : zH) : zXf zT znl d 97 256 lo st h = zXf zT znl d 97 257 lo (.int (nI 0) :: st) h := (zXq (op := oPush 0 257) zT_97 rfl).trans rfl
theorem q97_257 (d : Nat) (a0 : Value) (a1 : Value) (x : Int32) (l : zL) (st : List Value) (h : zH) : zXf zT znl d 97 257 (a0 :: a1 :: .int x :: l) st h = zXf zT znl d 97 258 (a0 :: a1 :: .int x :: l) (.int x :: st) h := (zXq (op := oIl 2 258) zT_97 rfl).trans rfl
theorem q97_258 (d : Nat) (a0 : Value) (a1 : Value) (a2 : Value) (x : Int32) (l : zL) (st : List Value) (h : zH) : zXf zT znl d 97 258 (a0 :: a1 :: a2 :: .int x :: l) st h = zXf zT znl d 97 259 (a0 :: a1 :: a2 :: .int x :: l) (.int x :: st) h := (zXq (op := oIl 3 259) zT_97 rfl).trans rfl
theorem q97_259 (d : Nat) (lo : zL) (x0 x1 x2 x3 x4 : Value) (h : zH) (hr : zrc 3 [x0, x1, x2, x3, x4] = true) : zXf zT znl d 97 259 lo [x4, x3, x2, x1, x0] h = (zCf zT znl d 94 [x0, x1, x2, x3, x4] h).bind fun o => zXf zT znl d 97 262 lo (o.1.toList ++ []) o.2 := (zXq (op := oC5 3 94 262) zT_97 rfl).trans (zB_cl rfl hr)
theorem q97_262 (d : Nat) (x : Nat) (l : zL) (st : List Value) (h : zH) : zXf zT znl d 97 262 (.ref x :: l) st h = zXf zT znl d 97 263 (.ref x :: l) (.ref x :: st) h := (zXq (op := oAl 0 263) zT_97 rfl).trans rfl
theorem q97_263 (d : Nat) (lo : zL) (st : List Value) (h : zH) : zXf zT znl d 97 263 lo st h = zB zT znl d 97 (oGf 3 4 266 lo st h) := zXq (op := oGf 3 4 266) zT_97 rfl
theorem q97_266 (d : Nat) (lo : zL) (x y : Int32) (st : List Value) (h : zH) : zXf zT znl d 97 266 lo (.int y :: .int x :: st) h = zXf zT znl d 97 267 lo (.int (x + y) :: st) h := (zXq (op := oBin (fun x y => x + y) 267) zT_97 rfl).trans rfl
theorem q97_267 (d : Nat) (lo : zL) (x : Int32) (h : zH) : zXf zT znl d 97 267 lo [.int x] h = some (some (.int x), h) := (zXq (op := oIret) zT_97 rfl).trans rfl
theorem q97_268 (d : Nat) (x : Nat) (l : zL) (st : List Value) (h : zH) : zXf zT znl d 97 268 (.ref x :: l) st h = zXf zT znl d 97 269 (.ref x :: l) (.ref x :: st) h := (zXq (op := oAl 0 269) zT_97 rfl).trans rfl
theorem q97_269 (d : Nat) (lo : zL) (st : List Value) (h : zH) : zXf zT znl d 97 269 lo st h = zXf zT znl d 97 271 lo (.int (nI 6) :: st) h := (zXq (op := oPush 6 271) zT_97 rfl).trans rfl
theorem q97_271 (d : Nat) (lo : zL) (st : List Value) (h : zH) : zXf zT znl d 97 271 lo st h = zXf zT znl d 97 272 lo (.int (nI 3) :: st) h := (zXq (op := oPush 3 272) zT_97 rfl).trans rfl
theorem q97_272 (d : Nat) (a0 : Value) (a1 : Value) (x : Int32) (l : zL) (st : List Value) (h : zH) : zXf zT znl d 97 272 (a0 :: a1 :: .int x :: l) st h = zXf zT znl d 97 273 (a0 :: a1 :: .int x :: l) (.int x :: st) h := (zXq (op := oIl 2 273) zT_97 rfl).trans rfl
theorem q97_273 (d : Nat) (a0 : Value) (a1 : Value) (a2 : Value) (x : Int32) (l : zL) (st : List Value) (h : zH) : zXf zT znl d 97 273 (a0 :: a1 :: a2 :: .int x :: l) st h = zXf zT znl d 97 274 (a0 :: a1 :: a2 :: .int x :: l) (.int x :: st) h := (zXq (op := oIl 3 274) zT_97 rfl).trans rfl
theorem q97_274 (d : Nat) (lo : zL) (x0 x1 x2 x3 x4 : Value) (h : zH) (hr : zrc 3 [x0, x1, x2, x3, x4] = true) : zXf zT znl d 97 274 lo [x4, x3, x2, x1, x0] h = (zCf zT znl d 94 [x0, x1, x2, x3, x4] h).bind fun o => zXf zT znl d 97 277 lo (o.1.toList ++ []) o.2 := (zXq (op := oC5 3 94 277) zT_97 rfl).trans (zB_cl rfl hr)
theorem q97_277 (d : Nat) (x : Nat) (l : zL) (st : List Value) (h : zH) : zXf zT znl d 97 277 (.ref x :: l) st h = zXf zT znl d 97 278 (.ref x :: l) (.ref x :: st) h := (zXq (op := oAl 0 278) zT_97 rfl).trans rfl
theorem q97_278 (d : Nat) (lo : zL) (st : List Value) (h : zH) : zXf zT znl d 97 278 lo st h = zXf zT znl d 97 279 lo (.int (nI 2) :: st) h := (zXq (op := oPush 2 279) zT_97 rfl).trans rfl
theorem q97_279 (d : Nat) (lo : zL) (st : List Value) (h : zH) : zXf zT znl d 97 279 lo st h = zXf zT znl d 97 280 lo (.int (nI 0) :: st) h := (zXq (op := oPush 0 280) zT_97 rfl).trans rfl
theorem q97_280 (d : Nat) (a0 : Value) (a1 : Value) (a2 : Value) (x : Int32) (l : zL) (st : List Value) (h : zH) : zXf zT znl d 97 280 (a0 :: a1 :: a2 :: .int x :: l) st h = zXf zT znl d 97 281 (a0 :: a1 :: a2 :: .int x :: l) (.int x :: st) h := (zXq (op := oIl 3 281) zT_97 rfl).trans rfl
theorem q97_281 (d : Nat) (lo : zL) (x0 x1 x2 x3 s0 : Value) (h : zH) (hr : zrc 3 [x0, x1, x2, x3] = true) : zXf zT znl d 97 281 lo [x3, x2, x1, x0, s0] h = (zCf zT znl d 96 [x0, x1, x2, x3] h).bind fun o => zXf zT znl d 97 284 lo (o.1.toList ++ [s0]) o.2 := (zXq (op := oC4 3 96 284) zT_97 rfl).trans (zB_cl rfl hr)
theorem q97_284 (d : Nat) (lo : zL) (x y : Int32) (st : List Value) (h : zH) : zXf zT znl d 97 284 lo (.int y :: .int x :: st) h = zXf zT znl d 97 285 lo (.int (x - y) :: st) h := (zXq (op := oBin (fun x y => x - y) 285) zT_97 rfl).trans rfl
theorem q97_285 (d : Nat) (lo : zL) (x : Int32) (h : zH) : zXf zT znl d 97 285 lo [.int x] h = some (some (.int x), h) := (zXq (op := oIret) zT_97 rfl).trans rfl
theorem q97_286 (d : Nat) (lo : zL) (st : List Value) (h : zH) : zXf zT znl d 97 286 lo st h = zXf zT znl d 97 287 lo (.int (nI 0) :: st) h := (zXq (op := oPush 0 287) zT_97 rfl).trans rfl
theorem q97_287 (d : Nat) (lo : zL) (x : Int32) (h : zH) : zXf zT znl d 97 287 lo [.int x] h = some (some (.int x), h) := (zXq (op := oIret) zT_97 rfl).trans rfl
theorem q98_0 (d : Nat) (x : Nat) (l : zL) (st : List Value) (h : zH) : zXf zT znl d 98 0 (.ref x :: l) st h = zXf zT znl d 98 1 (.ref x :: l) (.ref x :: st) h := (zXq (op := oAl 0 1) zT_98 rfl).trans rfl
theorem q98_1 (d : Nat) (a0 : Value) (x : Int32) (l : zL) (st : List Value) (h : zH) : zXf zT znl d 98 1 (a0 :: .int x :: l) st h = zXf zT znl d 98 2 (a0 :: .int x :: l) (.int x :: st) h := (zXq (op := oIl 1 2) zT_98 rfl).trans rfl
theorem q98_2 (d : Nat) (lo : zL) (st : List Value) (h : zH) : zXf zT znl d 98 2 lo st h = zB zT znl d 98 (oPf 3 3 5 lo st h) := zXq (op := oPf 3 3 5) zT_98 rfl
theorem q98_5 (d : Nat) (x : Nat) (l : zL) (st : List Value) (h : zH) : zXf zT znl d 98 5 (.ref x :: l) st h = zXf zT znl d 98 6 (.ref x :: l) (.ref x :: st) h := (zXq (op := oAl 0 6) zT_98 rfl).trans rfl
theorem q98_6 (d : Nat) (a0 : Value) (a1 : Value) (x : Int32) (l : zL) (st : List Value) (h : zH) : zXf zT znl d 98 6 (a0 :: a1 :: .int x :: l) st h = zXf zT znl d 98 7 (a0 :: a1 :: .int x :: l) (.int x :: st) h := (zXq (op := oIl 2 7) zT_98 rfl).trans rfl
theorem q98_7 (d : Nat) (lo : zL) (st : List Value) (h : zH) : zXf zT znl d 98 7 lo st h = zB zT znl d 98 (oPf 3 4 10 lo st h) := zXq (op := oPf 3 4 10) zT_98 rfl
theorem q98_10 (d : Nat) (x : Nat) (l : zL) (st : List Value) (h : zH) : zXf zT znl d 98 10 (.ref x :: l) st h = zXf zT znl d 98 11 (.ref x :: l) (.ref x :: st) h := (zXq (op := oAl 0 11) zT_98 rfl).trans rfl
theorem q98_11 (d : Nat) (a0 : Value) (a1 : Value) (a2 : Value) (x : Int32) (l : zL) (st : List Value) (h : zH) : zXf zT znl d 98 11 (a0 :: a1 :: a2 :: .int x :: l) st h = zXf zT znl d 98 12 (a0 :: a1 :: a2 :: .int x :: l) (.int x :: st) h := (zXq (op := oIl 3 12) zT_98 rfl).trans rfl
theorem q98_12 (d : Nat) (lo : zL) (st : List Value) (h : zH) : zXf zT znl d 98 12 lo st h = zB zT znl d 98 (oPf 3 5 15 lo st h) := zXq (op := oPf 3 5 15) zT_98 rfl
theorem q98_15 (d : Nat) (x : Nat) (l : zL) (st : List Value) (h : zH) : zXf zT znl d 98 15 (.ref x :: l) st h = zXf zT znl d 98 16 (.ref x :: l) (.ref x :: st) h := (zXq (op := oAl 0 16) zT_98 rfl).trans rfl
theorem q98_16 (d : Nat) (lo : zL) (st : List Value) (h : zH) : zXf zT znl d 98 16 lo st h = zXf zT znl d 98 17 lo (.int (nI 0) :: st) h := (zXq (op := oPush 0 17) zT_98 rfl).trans rfl
theorem q98_17 (d : Nat) (lo : zL) (st : List Value) (h : zH) : zXf zT znl d 98 17 lo st h = zB zT znl d 98 (oPf 3 1 20 lo st h) := zXq (op := oPf 3 1 20) zT_98 rfl
theorem q98_20 (d : Nat) (x : Nat) (l : zL) (st : List Value) (h : zH) : zXf zT znl d 98 20 (.ref x :: l) st h = zXf zT znl d 98 21 (.ref x :: l) (.ref x :: st) h := (zXq (op := oAl 0 21) zT_98 rfl).trans rfl
theorem q98_21 (d : Nat) (lo : zL) (st : List Value) (h : zH) : zXf zT znl d 98 21 lo st h = zXf zT znl d 98 22 lo (.int (nI 0) :: st) h := (zXq (op := oPush 0 22) zT_98 rfl).trans rfl
theorem q98_22 (d : Nat) (lo : zL) (st : List Value) (h : zH) : zXf zT znl d 98 22 lo st h = zB zT znl d 98 (oPf 3 2 25 lo st h) := zXq (op := oPf 3 2 25) zT_98 rfl
theorem q98_25 (d : Nat) (x : Nat) (l : zL) (st : List Value) (h : zH) : zXf zT znl d 98 25 (.ref x :: l) st h = zXf zT znl d 98 26 (.ref x :: l) (.ref x :: st) h := (zXq (op := oAl 0 26) zT_98 rfl).trans rfl
theorem q98_26 (d : Nat) (a0 : Value) (a1 : Value) (a2 : Value) (a3 : Value) (x : Int32) (l : zL) (st : List Value) (h : zH) : zXf zT znl d 98 26 (a0 :: a1 :: a2 :: a3 :: .int x :: l) st h = zXf zT znl d 98 28 (a0 :: a1 :: a2 :: a3 :: .int x :: l) (.int x :: st) h := (zXq (op := oIl 4 28) zT_98 rfl).trans rfl
theorem q98_28 (d : Nat) (a0 : Value) (a1 : Value) (a2 : Value) (a3 : Value) (a4 : Value) (x : Int32) (l : zL) (st : List Value) (h : zH) : zXf zT znl d 98 28 (a0 :: a1 :: a2 :: a3 :: a4 :: .int x :: l) st h = zXf zT znl d 98 30 (a0 :: a1 :: a2 :: a3 :: a4 :: .int x :: l) (.int x :: st) h := (zXq (op := oIl 5 30) zT_98 rfl).trans rfl
theorem q98_30 (d : Nat) (lo : zL) (st : List Value) (h : zH) : zXf zT znl d 98 30 lo st h = zXf zT znl d 98 31 lo (.int (nI 0) :: st) h := (zXq (op := oPush 0 31) zT_98 rfl).trans rfl
theorem q98_31 (d : Nat) (lo : zL) (x0 x1 x2 x3 : Value) (h : zH) (hr : zrc 3 [x0, x1, x2, x3] = true) : zXf zT znl d 98 31 lo [x3, x2, x1, x0] h = (zCf zT znl d 96 [x0, x1, x2, x3] h).bind fun o => zXf zT znl d 98 34 lo (o.1.toList ++ []) o.2 := (zXq (op := oC4 3 96 34) zT_98 rfl).trans (zB_cl rfl hr)
theorem q98_34 (d : Nat) (lo : zL) (x : Int32) (h : zH) : zXf zT znl d 98 34 lo [.int x] h = some (some (.int x), h) := (zXq (op := oIret) zT_98 rfl).trans rfl
theorem q99_0 (d : Nat) (a0 : Value) (a1 : Value) (x : Int32) (l : zL) (st : List Value) (h : zH) : zXf zT znl d 99 0 (a0 :: a1 :: .int x :: l) st h = zXf zT znl d 99 1 (a0 :: a1 :: .int x :: l) (.int x :: st) h := (zXq (op := oIl 2 1) zT_99 rfl).trans rfl
theorem q99_1 (d : Nat) (lo : zL) (st : List Value) (h : zH) : zXf zT znl d 99 1 lo st h = zXf zT znl d 99 2 lo (.int (nI 0) :: st) h := (zXq (op := oPush 0 2) zT_99 rfl).trans rfl
theorem q99_2 (d : Nat) (lo : zL) (st : List Value) (h : zH) : zXf zT znl d 99 2 lo st h = zXf zT znl d 99 5 lo (.int (nI 200) :: st) h := (zXq (op := oPush 200 5) zT_99 rfl).trans rfl
theorem q99_5 (d : Nat) (lo : zL) (x0 x1 x2 : Value) (h : zH) : zXf zT znl d 99 5 lo [x2, x1, x0] h = (zCf zT znl d 0 [x0, x1, x2] h).bind fun o => zXf zT znl d 99 8 lo (o.1.toList ++ []) o.2 := (zXq (op := oC3 98 0 8) zT_99 rfl).trans (zB_cl rfl rfl)
theorem q99_8 (d : Nat) (lo : zL) (x : Int32) (st : List Value) (h : zH) : zXf zT znl d 99 8 lo (.int x :: st) h = if x = nI 0 then zXf zT znl d 99 11 lo st h else zXf zT znl d 99 12 lo st h := (zXq (op := oNe0 12 11) zT_99 rfl).trans (zB_if _ _)
theorem q99_11 (d : Nat) (lo : zL) (h : zH) : zXf zT znl d 99 11 lo [] h = some (none, h) := (zXq (op := oRet) zT_99 rfl).trans rfl
theorem q99_12 (d : Nat) (x : Nat) (l : zL) (st : List Value) (h : zH) : zXf zT znl d 99 12 (.ref x :: l) st h = zXf zT znl d 99 13 (.ref x :: l) (.ref x :: st) h := (zXq (op := oAl 0 13) zT_99 rfl).trans rfl
theorem q99_13 (d : Nat) (lo : zL) (st : List Value) (h : zH) : zXf zT znl d 99 13 lo st h = zB zT znl d 99 (oGf 1 0 16 lo st h) := zXq (op := oGf 1 0 16) zT_99 rfl
theorem q99_16 (d : Nat) (a0 : Value) (a1 : Value) (x : Int32) (l : zL) (st : List Value) (h : zH) : zXf zT znl d 99 16 (a0 :: a1 :: .int x :: l) st h = zXf zT znl d 99 17 (a0 :: a1 :: .int x :: l) (.int x :: st) h := (zXq (op := oIl 2 17) zT_99 rfl).trans rfl
theorem q99_17 (d : Nat) (lo : zL) (st : List Value) (h : zH) : zXf zT znl d 99 17 lo st h = zB zT znl d 99 (oAald 18 lo st h) := zXq (op := oAald 18) zT_99 rfl
theorem q99_18 (d : Nat) (a0 : Value) (a1 : Value) (a2 : Value) (a3 : Value) (x : Nat) (l : zL) (st : List Value) (h : zH) (hz : zokv a2 = true) : zXf zT znl d 99 18 (a0 :: a1 :: a2 :: a3 :: l) (.ref x :: st) h = zXf zT znl d 99 19 (a0 :: a1 :: a2 :: .ref x :: l) st h := by
  refine (zXq (op := oAs 3 19) zT_99 rfl).trans ?_
  simp only [oAs, zok, hz, Bool.and_self, if_true, List.set_cons_succ, List.set_cons_zero, zB_go]
theorem q99_19 (d : Nat) (a0 : Value) (a1 : Value) (a2 : Value) (x : Nat) (l : zL) (st : List Value) (h : zH) : zXf zT znl d 99 19 (a0 :: a1 :: a2 :: .ref x :: l) st h = zXf zT znl d 99 20 (a0 :: a1 :: a2 :: .ref x :: l) (.ref x :: st) h := (zXq (op := oAl 3 20) zT_99 rfl).trans rfl
theorem q99_20 (d : Nat) (lo : zL) (st : List Value) (h : zH) : zXf zT znl d 99 20 lo st h = zXf zT znl d 99 21 lo (.int (nI 0) :: st) h := (zXq (op := oPush 0 21) zT_99 rfl).trans rfl
theorem q99_21 (d : Nat) (a0 : Value) (x : Nat) (l : zL) (st : List Value) (h : zH) : zXf zT znl d 99 21 (a0 :: .ref x :: l) st h = zXf zT znl d 99 22 (a0 :: .ref x :: l) (.ref x :: st) h := (zXq (op := oAl 1 22) zT_99 rfl).trans rfl
theorem q99_22 (d : Nat) (lo : zL) (st : List Value) (h : zH) : zXf zT znl d 99 22 lo st h = zB zT znl d 99 (oGf 5 9 25 lo st h) := zXq (op := oGf 5 9 25) zT_99 rfl
theorem q99_25 (d : Nat) (lo : zL) (st : List Value) (h : zH) : zXf zT znl d 99 25 lo st h = zB zT znl d 99 (oIast 26 lo st h) := zXq (op := oIast 26) zT_99 rfl
theorem q99_26 (d : Nat) (lo : zL) (st : List Value) (h : zH) : zXf zT znl d 99 26 lo st h = zXf zT znl d 99 27 lo (.int (nI 0) :: st) h := (zXq (op := oPush 0 27) zT_99 rfl).trans rfl
theorem q99_27 (d : Nat) (a0 : Value) (a1 : Value) (a2 : Value) (a3 : Value) (a4 : Value) (x : Int32) (l : zL) (st : List Value) (h : zH) (hz : zokv a3 = true) : zXf zT znl d 99 27 (a0 :: a1 :: a2 :: a3 :: a4 :: l) (.int x :: st) h = zXf zT znl d 99 29 (a0 :: a1 :: a2 :: a3 :: .int x :: l) st h := by
  refine (zXq (op := oIs 4 29) zT_99 rfl).trans ?_
  simp only [oIs, zok, hz, Bool.and_self, if_true, List.set_cons_succ, List.set_cons_zero, zB_go]
theorem q99_29 (d : Nat) (a0 : Value) (a1 : Value) (a2 : Value) (a3 : Value) (x : Int32) (l : zL) (st : List Value) (h : zH) : zXf zT znl d 99 29 (a0 :: a1 :: a2 :: a3 :: .int x :: l) st h = zXf zT znl d 99 31 (a0 :: a1 :: a2 :: a3 :: .int x :: l) (.int x :: st) h := (zXq (op := oIl 4 31) zT_99 rfl).trans rfl
theorem q99_31 (d : Nat) (lo : zL) (st : List Value) (h : zH) : zXf zT znl d 99 31 lo st h = zXf zT znl d 99 33 lo (.int (nI 8) :: st) h := (zXq (op := oPush 8 33) zT_99 rfl).trans rfl
theorem q99_33 (d : Nat) (lo : zL) (x y : Int32) (st : List Value) (h : zH) : zXf zT znl d 99 33 lo (.int y :: .int x :: st) h = if y ≤ x then zXf zT znl d 99 70 lo st h else zXf zT znl d 99 36 lo st h := (zXq (op := oCGe 70 36) zT_99 rfl).trans (zB_if _ _)
theorem q99_36 (d : Nat) (a0 : Value) (a1 : Value) (a2 : Value) (x : Nat) (l : zL) (st : List Value) (h : zH) : zXf zT znl d 99 36 (a0 :: a1 :: a2 :: .ref x :: l) st h = zXf zT znl d 99 37 (a0 :: a1 :: a2 :: .ref x :: l) (.ref x :: st) h := (zXq (op := oAl 3 37) zT_99 rfl).trans rfl
theorem q99_37 (d : Nat) (lo : zL) (st : List Value) (h : zH) : zXf zT znl d 99 37 lo st h = zXf zT znl d 99 38 lo (.int (nI 1) :: st) h := (zXq (op := oPush 1 38) zT_99 rfl).trans rfl
theorem q99_38 (d : Nat) (a0 : Value) (a1 : Value) (a2 : Value) (a3 : Value) (x : Int32) (l : zL) (st : List Value) (h : zH) : zXf zT znl d 99 38 (a0 :: a1 :: a2 :: a3 :: .int x :: l) st h = zXf zT znl d 99 40 (a0 :: a1 :: a2 :: a3 :: .int x :: l) (.int x :: st) h := (zXq (op := oIl 4 40) zT_99 rfl).trans rfl
theorem q99_40 (d : Nat) (lo : zL) (x y : Int32) (st : List Value) (h : zH) : zXf zT znl d 99 40 lo (.int y :: .int x :: st) h = zXf zT znl d 99 41 lo (.int (x + y) :: st) h := (zXq (op := oBin (fun x y => x + y) 41) zT_99 rfl).trans rfl
theorem q99_41 (d : Nat) (a0 : Value) (a1 : Value) (a2 : Value) (a3 : Value) (x : Int32) (l : zL) (st : List Value) (h : zH) : zXf zT znl d 99 41 (a0 :: a1 :: a2 :: a3 :: .int x :: l) st h = zXf zT znl d 99 43 (a0 :: a1 :: a2 :: a3 :: .int x :: l) (.int x :: st) h := (zXq (op := oIl 4 43) zT_99 rfl).trans rfl
theorem q99_43 (d : Nat) (a0 : Value) (x : Nat) (l : zL) (st : List Value) (h : zH) : zXf zT znl d 99 43 (a0 :: .ref x :: l) st h = zXf zT znl d 99 44 (a0 :: .ref x :: l) (.ref x :: st) h := (zXq (op := oAl 1 44) zT_99 rfl).trans rfl
theorem q99_44 (d : Nat) (lo : zL) (st : List Value) (h : zH) : zXf zT znl d 99 44 lo st h = zB zT znl d 99 (oGf 5 12 47 lo st h) := zXq (op := oGf 5 12 47) zT_99 rfl
theorem q99_47 (d : Nat) (lo : zL) (x y : Int32) (st : List Value) (h : zH) : zXf zT znl d 99 47 lo (.int y :: .int x :: st) h = if y ≤ x then zXf zT znl d 99 62 lo st h else zXf zT znl d 99 50 lo st h := (zXq (op := oCGe 62 50) zT_99 rfl).trans (zB_if _ _)
theorem q99_50 (d : Nat) (a0 : Value) (x : Nat) (l : zL) (st : List Value) (h : zH) : zXf zT znl d 99 50 (a0 :: .ref x :: l) st h = zXf zT znl d 99 51 (a0 :: .ref x :: l) (.ref x :: st) h := (zXq (op := oAl 1 51) zT_99 rfl).trans rfl
theorem q99_51 (d : Nat) (lo : zL) (st : List Value) (h : zH) : zXf zT znl d 99 51 lo st h = zB zT znl d 99 (oGf 5 2 54 lo st h) := zXq (op := oGf 5 2 54) zT_99 rfl
theorem q99_54 (d : Nat) (a0 : Value) (a1 : Value) (a2 : Value) (a3 : Value) (x : Int32) (l : zL) (st : List Value) (h : zH) : zXf zT znl d 99 54 (a0 :: a1 :: a2 :: a3 :: .int x :: l) st h = zXf zT znl d 99 56 (a0 :: a1 :: a2 :: a3 :: .int x :: l) (.int x :: st) h := (zXq (op := oIl 4 56) zT_99 rfl).trans rfl
theorem q99_56 (d : Nat) (lo : zL) (st : List Value) (h : zH) : zXf zT znl d 99 56 lo st h = zB zT znl d 99 (oAald 57 lo st h) := zXq (op := oAald 57) zT_99 rfl
theorem q99_57 (d : Nat) (lo : zL) (st : List Value) (h : zH) : zXf zT znl d 99 57 lo st h = zXf zT znl d 99 58 lo (.int (nI 4) :: st) h := (zXq (op := oPush 4 58) zT_99 rfl).trans rfl
theorem q99_58 (d : Nat) (lo : zL) (st : List Value) (h : zH) : zXf zT znl d 99 58 lo st h = zB zT znl d 99 (oIald 59 lo st h) := zXq (op := oIald 59) zT_99 rfl
theorem q99_59 (d : Nat) (lo : zL) (st : List Value) (h : zH) : zXf zT znl d 99 59 lo st h = zXf zT znl d 99 63 lo st h := (zXq (op := oGoto 63) zT_99 rfl).trans rfl
theorem q99_62 (d : Nat) (lo : zL) (st : List Value) (h : zH) : zXf zT znl d 99 62 lo st h = zXf zT znl d 99 63 lo (.int (nI 0) :: st) h := (zXq (op := oPush 0 63) zT_99 rfl).trans rfl
theorem q99_63 (d : Nat) (lo : zL) (st : List Value) (h : zH) : zXf zT znl d 99 63 lo st h = zB zT znl d 99 (oIast 64 lo st h) := zXq (op := oIast 64) zT_99 rfl
theorem q99_64 (d : Nat) (a0 : Value) (a1 : Value) (a2 : Value) (a3 : Value) (x : Int32) (l : zL) (st : List Value) (h : zH) (hz : zokv a3 = true) : zXf zT znl d 99 64 (a0 :: a1 :: a2 :: a3 :: .int x :: l) st h = zXf zT znl d 99 67 (a0 :: a1 :: a2 :: a3 :: .int (x + nI 1) :: l) st h := by
  refine (zXq (op := oInc 4 1 67) zT_99 rfl).trans ?_
  simp only [oInc, List.getElem?_cons_succ, List.getElem?_cons_zero, zok, hz, Bool.and_self, if_true, List.set_cons_succ, List.set_cons_zero, zB_go]
  try rfl
theorem q99_67 (d : Nat) (lo : zL) (st : List Value) (h : zH) : zXf zT znl d 99 67 lo st h = zXf zT znl d 99 29 lo st h := (zXq (op := oGoto 29) zT_99 rfl).trans rfl
theorem q99_70 (d : Nat) (lo : zL) (h : zH) : zXf zT znl d 99 70 lo [] h = some (none, h) := (zXq (op := oRet) zT_99 rfl).trans rfl
theorem q100_0 (d : Nat) (lo : zL) (st : List Value) (h : zH) : zXf zT znl d 100 0 lo st h = zXf zT znl d 100 1 lo (.int (nI 0) :: st) h := (zXq (op := oPush 0 1) zT_100 rfl).trans rfl
theorem q100_1 (d : Nat) (a0 : Value) (a1 : Value) (a2 : Value) (x : Int32) (l : zL) (st : List Value) (h : zH) (hz : zokv a1 = true) : zXf zT znl d 100 1 (a0 :: a1 :: a2 :: l) (.int x :: st) h = zXf zT znl d 100 2 (a0 :: a1 :: .int x :: l) st h := by
  refine (zXq (op := oIs 2 2) zT_100 rfl).trans ?_
  simp only [oIs, zok, hz, Bool.and_self, if_true, List.set_cons_succ, List.set_cons_zero, zB_go]
theorem q100_2 (d : Nat) (a0 : Value) (a1 : Value) (x : Int32) (l : zL) (st : List Value) (h : zH) : zXf zT znl d 100 2 (a0 :: a1 :: .int x :: l) st h = zXf zT znl d 100 3 (a0 :: a1 :: .int x :: l) (.int x :: st) h := (zXq (op := oIl 2 3) zT_100 rfl).trans rfl
theorem q100_3 (d : Nat) (lo : zL) (st : List Value) (h : zH) : zXf zT znl d 100 3 lo st h = zXf zT znl d 100 5 lo (.int (nI 9) :: st) h := (zXq (op := oPush 9 5) zT_100 rfl).trans rfl
theorem q100_5 (d : Nat) (lo : zL) (x y : Int32) (st : List Value) (h : zH) : zXf zT znl d 100 5 lo (.int y :: .int x :: st) h = if y ≤ x then zXf zT znl d 100 25 lo st h else zXf zT znl d 100 8 lo st h := (zXq (op := oCGe 25 8) zT_100 rfl).trans (zB_if _ _)
theorem q100_8 (d : Nat) (x : Nat) (l : zL) (st : List Value) (h : zH) : zXf zT znl d 100 8 (.ref x :: l) st h = zXf zT znl d 100 9 (.ref x :: l) (.ref x :: st) h := (zXq (op := oAl 0 9) zT_100 rfl).trans rfl
theorem q100_9 (d : Nat) (a0 : Value) (a1 : Value) (x : Int32) (l : zL) (st : List Value) (h : zH) : zXf zT znl d 100 9 (a0 :: a1 :: .int x :: l) st h = zXf zT znl d 100 10 (a0 :: a1 :: .int x :: l) (.int x :: st) h := (zXq (op := oIl 2 10) zT_100 rfl).trans rfl
theorem q100_10 (d : Nat) (lo : zL) (st : List Value) (h : zH) : zXf zT znl d 100 10 lo st h = zB zT znl d 100 (oIald 11 lo st h) := zXq (op := oIald 11) zT_100 rfl
theorem q100_11 (d : Nat) (a0 : Value) (x : Nat) (l : zL) (st : List Value) (h : zH) : zXf zT znl d 100 11 (a0 :: .ref x :: l) st h = zXf zT znl d 100 12 (a0 :: .ref x :: l) (.ref x :: st) h := (zXq (op := oAl 1 12) zT_100 rfl).trans rfl
theorem q100_12 (d : Nat) (a0 : Value) (a1 : Value) (x : Int32) (l : zL) (st : List Value) (h : zH) : zXf zT znl d 100 12 (a0 :: a1 :: .int x :: l) st h = zXf zT znl d 100 13 (a0 :: a1 :: .int x :: l) (.int x :: st) h := (zXq (op := oIl 2 13) zT_100 rfl).trans rfl
theorem q100_13 (d : Nat) (lo : zL) (st : List Value) (h : zH) : zXf zT znl d 100 13 lo st h = zB zT znl d 100 (oIald 14 lo st h) := zXq (op := oIald 14) zT_100 rfl
theorem q100_14 (d : Nat) (lo : zL) (x y : Int32) (st : List Value) (h : zH) : zXf zT znl d 100 14 lo (.int y :: .int x :: st) h = if x = y then zXf zT znl d 100 19 lo st h else zXf zT znl d 100 17 lo st h := (zXq (op := oCEq 19 17) zT_100 rfl).trans (zB_if _ _)
theorem q100_17 (d : Nat) (lo : zL) (st : List Value) (h : zH) : zXf zT znl d 100 17 lo st h = zXf zT znl d 100 18 lo (.int (nI 0) :: st) h := (zXq (op := oPush 0 18) zT_100 rfl).trans rfl
theorem q100_18 (d : Nat) (lo : zL) (x : Int32) (h : zH) (hx : x = 0 ∨ x = 1) : zXf zT znl d 100 18 lo [.int x] h = some (some (.int x), h) := by
  refine (zXq (op := oZret) zT_100 rfl).trans ?_
  simp only [oZret, if_pos hx, zB_end]
theorem q100_19 (d : Nat) (a0 : Value) (a1 : Value) (x : Int32) (l : zL) (st : List Value) (h : zH) (hz : zokv a1 = true) : zXf zT znl d 100 19 (a0 :: a1 :: .int x :: l) st h = zXf zT znl d 100 22 (a0 :: a1 :: .int (x + nI 1) :: l) st h := by
  refine (zXq (op := oInc 2 1 22) zT_100 rfl).trans ?_
  simp only [oInc, List.getElem?_cons_succ, List.getElem?_cons_zero, zok, hz, Bool.and_self, if_true, List.set_cons_succ, List.set_cons_zero, zB_go]
  try rfl
theorem q100_22 (d : Nat) (lo : zL) (st : List Value) (h : zH) : zXf zT znl d 100 22 lo st h = zXf zT znl d 100 2 lo st h := (zXq (op := oGoto 2) zT_100 rfl).trans rfl
theorem q100_25 (d : Nat) (lo : zL) (st : List Value) (h : zH) : zXf zT znl d 100 25 lo st h = zXf zT znl d 100 26 lo (.int (nI 1) :: st) h := (zXq (op := oPush 1 26) zT_100 rfl).trans rfl
theorem q100_26 (d : Nat) (lo : zL) (x : Int32) (h : zH) (hx : x = 0 ∨ x = 1) : zXf zT znl d 100 26 lo [.int x] h = some (some (.int x), h) := by
  refine (zXq (op := oZret) zT_100 rfl).trans ?_
  simp only [oZret, if_pos hx, zB_end]
theorem q101_0 (d : Nat) (a0 : Value) (x : Int32) (l : zL) (st : List Value) (h : zH) : zXf zT znl d 101 0 (a0 :: .int x :: l) st h = zXf zT znl d 101 1 (a0 :: .int x :: l) (.int x :: st) h := (zXq (op := oIl 1 1) zT_101 rfl).trans rfl
theorem q101_1 (d : Nat) (lo : zL) (st : List Value) (h : zH) : zXf zT znl d 101 1 lo st h = zXf zT znl d 101 2 lo (.int (nI 4) :: st) h := (zXq (op := oPush 4 2) zT_101 rfl).trans rfl
theorem q101_2 (d : Nat) (lo : zL) (x y : Int32) (st : List Value) (h : zH) : zXf zT znl d 101 2 lo (.int y :: .int x :: st) h = zXf zT znl d 101 3 lo (.int (x - y) :: st) h := (zXq (op := oBin (fun x y => x - y) 3) zT_101 rfl).trans rfl
theorem q101_3 (d : Nat) (a0 : Value) (a1 : Value) (a2 : Value) (x : Int32) (l : zL) (st : List Value) (h : zH) (hz : zokv a1 = true) : zXf zT znl d 101 3 (a0 :: a1 :: a2 :: l) (.int x :: st) h = zXf zT znl d 101 4 (a0 :: a1 :: .int x :: l) st h := by
  refine (zXq (op := oIs 2 4) zT_101 rfl).trans ?_
  simp only [oIs, zok, hz, Bool.and_self, if_true, List.set_cons_succ, List.set_cons_zero, zB_go]
theorem q101_4 (d : Nat) (a0 : Value) (a1 : Value) (x : Int32) (l : zL) (st : List Value) (h : zH) : zXf zT znl d 101 4 (a0 :: a1 :: .int x :: l) st h = zXf zT znl d 101 5 (a0 :: a1 :: .int x :: l) (.int x :: st) h := (zXq (op := oIl 2 5) zT_101 rfl).trans rfl
theorem q101_5 (d : Nat) (lo : zL) (x : Int32) (st : List Value) (h : zH) : zXf zT znl d 101 5 lo (.int x :: st) h = if x < nI 0 then zXf zT znl d 101 41 lo st h else zXf zT znl d 101 8 lo st h := (zXq (op := oLt0 41 8) zT_101 rfl).trans (zB_if _ _)
theorem q101_8 (d : Nat) (a0 : Value) (x : Int32) (l : zL) (st : List Value) (h : zH) : zXf zT znl d 101 8 (a0 :: .int x :: l) st h = zXf zT znl d 101 9 (a0 :: .int x :: l) (.int x :: st) h := (zXq (op := oIl 1 9) zT_101 rfl).trans rfl
theorem q101_9 (d : Nat) (lo : zL) (st : List Value) (h : zH) : zXf zT znl d 101 9 lo st h = zXf zT znl d 101 12 lo (.int (nI 200) :: st) h := (zXq (op := oPush 200 12) zT_101 rfl).trans rfl
theorem q101_12 (d : Nat) (lo : zL) (x y : Int32) (st : List Value) (h : zH) : zXf zT znl d 101 12 lo (.int y :: .int x :: st) h = if y < x then zXf zT znl d 101 41 lo st h else zXf zT znl d 101 15 lo st h := (zXq (op := oCGt 41 15) zT_101 rfl).trans (zB_if _ _)
theorem q101_15 (d : Nat) (x : Nat) (l : zL) (st : List Value) (h : zH) : zXf zT znl d 101 15 (.ref x :: l) st h = zXf zT znl d 101 16 (.ref x :: l) (.ref x :: st) h := (zXq (op := oAl 0 16) zT_101 rfl).trans rfl
theorem q101_16 (d : Nat) (lo : zL) (st : List Value) (h : zH) : zXf zT znl d 101 16 lo st h = zB zT znl d 101 (oGf 1 0 19 lo st h) := zXq (op := oGf 1 0 19) zT_101 rfl
theorem q101_19 (d : Nat) (a0 : Value) (a1 : Value) (x : Int32) (l : zL) (st : List Value) (h : zH) : zXf zT znl d 101 19 (a0 :: a1 :: .int x :: l) st h = zXf zT znl d 101 20 (a0 :: a1 :: .int x :: l) (.int x :: st) h := (zXq (op := oIl 2 20) zT_101 rfl).trans rfl
theorem q101_20 (d : Nat) (lo : zL) (st : List Value) (h : zH) : zXf zT znl d 101 20 lo st h = zB zT znl d 101 (oAald 21 lo st h) := zXq (op := oAald 21) zT_101 rfl
theorem q101_21 (d : Nat) (x : Nat) (l : zL) (st : List Value) (h : zH) : zXf zT znl d 101 21 (.ref x :: l) st h = zXf zT znl d 101 22 (.ref x :: l) (.ref x :: st) h := (zXq (op := oAl 0 22) zT_101 rfl).trans rfl
theorem q101_22 (d : Nat) (lo : zL) (st : List Value) (h : zH) : zXf zT znl d 101 22 lo st h = zB zT znl d 101 (oGf 1 0 25 lo st h) := zXq (op := oGf 1 0 25) zT_101 rfl
theorem q101_25 (d : Nat) (a0 : Value) (x : Int32) (l : zL) (st : List Value) (h : zH) : zXf zT znl d 101 25 (a0 :: .int x :: l) st h = zXf zT znl d 101 26 (a0 :: .int x :: l) (.int x :: st) h := (zXq (op := oIl 1 26) zT_101 rfl).trans rfl
theorem q101_26 (d : Nat) (lo : zL) (st : List Value) (h : zH) : zXf zT znl d 101 26 lo st h = zB zT znl d 101 (oAald 27 lo st h) := zXq (op := oAald 27) zT_101 rfl
theorem q101_27 (d : Nat) (lo : zL) (x0 x1 : Value) (h : zH) : zXf zT znl d 101 27 lo [x1, x0] h = (zCf zT znl d 100 [x0, x1] h).bind fun o => zXf zT znl d 101 30 lo (o.1.toList ++ []) o.2 := (zXq (op := oC2 98 100 30) zT_101 rfl).trans (zB_cl rfl rfl)
theorem q101_30 (d : Nat) (lo : zL) (x : Int32) (st : List Value) (h : zH) : zXf zT znl d 101 30 lo (.int x :: st) h = if x = nI 0 then zXf zT znl d 101 35 lo st h else zXf zT znl d 101 33 lo st h := (zXq (op := oEq0 35 33) zT_101 rfl).trans (zB_if _ _)
theorem q101_33 (d : Nat) (a0 : Value) (a1 : Value) (x : Int32) (l : zL) (st : List Value) (h : zH) : zXf zT znl d 101 33 (a0 :: a1 :: .int x :: l) st h = zXf zT znl d 101 34 (a0 :: a1 :: .int x :: l) (.int x :: st) h := (zXq (op := oIl 2 34) zT_101 rfl).trans rfl
theorem q101_34 (d : Nat) (lo : zL) (x : Int32) (h : zH) : zXf zT znl d 101 34 lo [.int x] h = some (some (.int x), h) := (zXq (op := oIret) zT_101 rfl).trans rfl
theorem q101_35 (d : Nat) (a0 : Value) (a1 : Value) (x : Int32) (l : zL) (st : List Value) (h : zH) (hz : zokv a1 = true) : zXf zT znl d 101 35 (a0 :: a1 :: .int x :: l) st h = zXf zT znl d 101 38 (a0 :: a1 :: .int (x + (-4)) :: l) st h := by
  refine (zXq (op := oInc 2 (-4) 38) zT_101 rfl).trans ?_
  simp only [oInc, List.getElem?_cons_succ, List.getElem?_cons_zero, zok, hz, Bool.and_self, if_true, List.set_cons_succ, List.set_cons_zero, zB_go]
  try rfl
theorem q101_38 (d : Nat) (lo : zL) (st : List Value) (h : zH) : zXf zT znl d 101 38 lo st h = zXf zT znl d 101 4 lo st h := (zXq (op := oGoto 4) zT_101 rfl).trans rfl
theorem q101_41 (d : Nat) (lo : zL) (st : List Value) (h : zH) : zXf zT znl d 101 41 lo st h = zXf zT znl d 101 42 lo (.int ((-1)) :: st) h := (zXq (op := oPush (-1) 42) zT_101 rfl).trans rfl
theorem q101_42 (d : Nat) (lo : zL) (x : Int32) (h : zH) : zXf zT znl d 101 42 lo [.int x] h = some (some (.int x), h) := (zXq (op := oIret) zT_101 rfl).trans rfl
theorem q102_0 (d : Nat) (x : Nat) (l : zL) (st : List Value) (h : zH) : zXf zT znl d 102 0 (.ref x :: l) st h = zXf zT znl d 102 1 (.ref x :: l) (.ref x :: st) h := (zXq (op := oAl 0 1) zT_102 rfl).trans rfl
theorem q102_1 (d : Nat) (lo : zL) (st : List Value) (h : zH) : zXf zT znl d 102 1 lo st h = zB zT znl d 102 (oGf 2 1 4 lo st h) := zXq (op := oGf 2 1 4) zT_102 rfl
theorem q102_4 (d : Nat) (lo : zL) (x : Int32) (st : List Value) (h : zH) : zXf zT znl d 102 4 lo (.int x :: st) h = if x = nI 0 then zXf zT znl d 102 7 lo st h else zXf zT znl d 102 11 lo st h := (zXq (op := oNe0 11 7) zT_102 rfl).trans (zB_if _ _)
theorem q102_7 (d : Nat) (lo : zL) (st : List Value) (h : zH) : zXf zT znl d 102 7 lo st h = zXf zT znl d 102 8 lo (.int (nI 1) :: st) h := (zXq (op := oPush 1 8) zT_102 rfl).trans rfl
theorem q102_8 (d : Nat) (lo : zL) (st : List Value) (h : zH) : zXf zT znl d 102 8 lo st h = zXf zT znl d 102 12 lo st h := (zXq (op := oGoto 12) zT_102 rfl).trans rfl
theorem q102_11 (d : Nat) (lo : zL) (st : List Value) (h : zH) : zXf zT znl d 102 11 lo st h = zXf zT znl d 102 12 lo (.int (nI 0) :: st) h := (zXq (op := oPush 0 12) zT_102 rfl).trans rfl
theorem q102_12 (d : Nat) (lo : zL) (x : Int32) (h : zH) (hx : x = 0 ∨ x = 1) : zXf zT znl d 102 12 lo [.int x] h = some (some (.int x), h) := by
  refine (zXq (op := oZret) zT_102 rfl).trans ?_
  simp only [oZret, if_pos hx, zB_end]
theorem q103_0 (d : Nat) (x : Nat) (l : zL) (st : List Value) (h : zH) : zXf zT znl d 103 0 (.ref x :: l) st h = zXf zT znl d 103 1 (.ref x :: l) (.ref x :: st) h := (zXq (op := oAl 0 1) zT_103 rfl).trans rfl
theorem q103_1 (d : Nat) (a0 : Value) (x : Int32) (l : zL) (st : List Value) (h : zH) : zXf zT znl d 103 1 (a0 :: .int x :: l) st h = zXf zT znl d 103 2 (a0 :: .int x :: l) (.int x :: st) h := (zXq (op := oIl 1 2) zT_103 rfl).trans rfl
theorem q103_2 (d : Nat) (lo : zL) (st : List Value) (h : zH) : zXf zT znl d 103 2 lo st h = zB zT znl d 103 (oPf 2 1 5 lo st h) := zXq (op := oPf 2 1 5) zT_103 rfl
theorem q103_5 (d : Nat) (x : Nat) (l : zL) (st : List Value) (h : zH) : zXf zT znl d 103 5 (.ref x :: l) st h = zXf zT znl d 103 6 (.ref x :: l) (.ref x :: st) h := (zXq (op := oAl 0 6) zT_103 rfl).trans rfl
theorem q103_6 (d : Nat) (a0 : Value) (a1 : Value) (x : Int32) (l : zL) (st : List Value) (h : zH) : zXf zT znl d 103 6 (a0 :: a1 :: .int x :: l) st h = zXf zT znl d 103 7 (a0 :: a1 :: .int x :: l) (.int x :: st) h := (zXq (op := oIl 2 7) zT_103 rfl).trans rfl
theorem q103_7 (d : Nat) (lo : zL) (st : List Value) (h : zH) : zXf zT znl d 103 7 lo st h = zB zT znl d 103 (oPf 2 2 10 lo st h) := zXq (op := oPf 2 2 10) zT_103 rfl
theorem q103_10 (d : Nat) (lo : zL) (st : List Value) (h : zH) : zXf zT znl d 103 10 lo st h = zXf zT znl d 103 11 lo (.int (nI 0) :: st) h := (zXq (op := oPush 0 11) zT_103 rfl).trans rfl
theorem q103_11 (d : Nat) (a0 : Value) (a1 : Value) (a2 : Value) (a3 : Value) (x : Int32) (l : zL) (st : List Value) (h : zH) (hz : zokv a2 = true) : zXf zT znl d 103 11 (a0 :: a1 :: a2 :: a3 :: l) (.int x :: st) h = zXf zT znl d 103 12 (a0 :: a1 :: a2 :: .int x :: l) st h := by
  refine (zXq (op := oIs 3 12) zT_103 rfl).trans ?_
  simp only [oIs, zok, hz, Bool.and_self, if_true, List.set_cons_succ, List.set_cons_zero, zB_go]
theorem q103_12 (d : Nat) (a0 : Value) (a1 : Value) (a2 : Value) (x : Int32) (l : zL) (st : List Value) (h : zH) : zXf zT znl d 103 12 (a0 :: a1 :: a2 :: .int x :: l) st h = zXf zT znl d 103 13 (a0 :: a1 :: a2 :: .int x :: l) (.int x :: st) h := (zXq (op := oIl 3 13) zT_103 rfl).trans rfl
theorem q103_13 (d : Nat) (lo : zL) (st : List Value) (h : zH) : zXf zT znl d 103 13 lo st h = zXf zT znl d 103 15 lo (.int (nI 24) :: st) h := (zXq (op := oPush 24 15) zT_103 rfl).trans rfl
theorem q103_15 (d : Nat) (lo : zL) (x y : Int32) (st : List Value) (h : zH) : zXf zT znl d 103 15 lo (.int y :: .int x :: st) h = if y ≤ x then zXf zT znl d 103 31 lo st h else zXf zT znl d 103 18 lo st h := (zXq (op := oCGe 31 18) zT_103 rfl).trans (zB_if _ _)
theorem q103_18 (d : Nat) (x : Nat) (l : zL) (st : List Value) (h : zH) : zXf zT znl d 103 18 (.ref x :: l) st h = zXf zT znl d 103 19 (.ref x :: l) (.ref x :: st) h := (zXq (op := oAl 0 19) zT_103 rfl).trans rfl
theorem q103_19 (d : Nat) (lo : zL) (st : List Value) (h : zH) : zXf zT znl d 103 19 lo st h = zB zT znl d 103 (oGf 2 0 22 lo st h) := zXq (op := oGf 2 0 22) zT_103 rfl
theorem q103_22 (d : Nat) (a0 : Value) (a1 : Value) (a2 : Value) (x : Int32) (l : zL) (st : List Value) (h : zH) : zXf zT znl d 103 22 (a0 :: a1 :: a2 :: .int x :: l) st h = zXf zT znl d 103 23 (a0 :: a1 :: a2 :: .int x :: l) (.int x :: st) h := (zXq (op := oIl 3 23) zT_103 rfl).trans rfl
theorem q103_23 (d : Nat) (lo : zL) (st : List Value) (h : zH) : zXf zT znl d 103 23 lo st h = zXf zT znl d 103 24 lo (.int (nI 0) :: st) h := (zXq (op := oPush 0 24) zT_103 rfl).trans rfl
theorem q103_24 (d : Nat) (lo : zL) (st : List Value) (h : zH) : zXf zT znl d 103 24 lo st h = zB zT znl d 103 (oIast 25 lo st h) := zXq (op := oIast 25) zT_103 rfl
theorem q103_25 (d : Nat) (a0 : Value) (a1 : Value) (a2 : Value) (x : Int32) (l : zL) (st : List Value) (h : zH) (hz : zokv a2 = true) : zXf zT znl d 103 25 (a0 :: a1 :: a2 :: .int x :: l) st h = zXf zT znl d 103 28 (a0 :: a1 :: a2 :: .int (x + nI 1) :: l) st h := by
  refine (zXq (op := oInc 3 1 28) zT_103 rfl).trans ?_
  simp only [oInc, List.getElem?_cons_succ, List.getElem?_cons_zero, zok, hz, Bool.and_self, if_true, List.set_cons_succ, List.set_cons_zero, zB_go]
  try rfl
theorem q103_28 (d : Nat) (lo : zL) (st : List Value) (h : zH) : zXf zT znl d 103 28 lo st h = zXf zT znl d 103 12 lo st h := (zXq (op := oGoto 12) zT_103 rfl).trans rfl
theorem q103_31 (d : Nat) (lo : zL) (h : zH) : zXf zT znl d 103 31 lo [] h = some (none, h) := (zXq (op := oRet) zT_103 rfl).trans rfl
theorem q104_0 (d : Nat) (x : Nat) (l : zL) (st : List Value) (h : zH) : zXf zT znl d 104 0 (.ref x :: l) st h = zXf zT znl d 104 1 (.ref x :: l) (.ref x :: st) h := (zXq (op := oAl 0 1) zT_104 rfl).trans rfl
theorem q104_1 (d : Nat) (lo : zL) (st : List Value) (h : zH) : zXf zT znl d 104 1 lo st h = zB zT znl d 104 (oGf 2 1 4 lo st h) := zXq (op := oGf 2 1 4) zT_104 rfl
theorem q104_4 (d : Nat) (lo : zL) (x : Int32) (st : List Value) (h : zH) : zXf zT znl d 104 4 lo (.int x :: st) h = if x = nI 8 then zXf zT znl d 104 32 lo st h else (if x = nI 16 then zXf zT znl d 104 43 lo st h else (zXf zT znl d 104 54 lo st h)) := by
  refine (zXq (op := oSw [(8, 32), (16, 43)] 54) zT_104 rfl).trans ?_
  simp only [oSw, zsw, zB_if, zB_go]
  try rfl
theorem q104_32 (d : Nat) (x : Nat) (l : zL) (st : List Value) (h : zH) : zXf zT znl d 104 32 (.ref x :: l) st h = zXf zT znl d 104 33 (.ref x :: l) (.ref x :: st) h := (zXq (op := oAl 0 33) zT_104 rfl).trans rfl
theorem q104_33 (d : Nat) (lo : zL) (st : List Value) (h : zH) : zXf zT znl d 104 33 lo st h = zB zT znl d 104 (oGf 2 0 36 lo st h) := zXq (op := oGf 2 0 36) zT_104 rfl
theorem q104_36 (d : Nat) (a0 : Value) (x : Int32) (l : zL) (st : List Value) (h : zH) : zXf zT znl d 104 36 (a0 :: .int x :: l) st h = zXf zT znl d 104 37 (a0 :: .int x :: l) (.int x :: st) h := (zXq (op := oIl 1 37) zT_104 rfl).trans rfl
theorem q104_37 (d : Nat) (a0 : Value) (a1 : Value) (x : Int32) (l : zL) (st : List Value) (h : zH) : zXf zT znl d 104 37 (a0 :: a1 :: .int x :: l) st h = zXf zT znl d 104 38 (a0 :: a1 :: .int x :: l) (.int x :: st) h := (zXq (op := oIl 2 38) zT_104 rfl).trans rfl
theorem q104_38 (d : Nat) (lo : zL) (x : Int32) (st : List Value) (h : zH) : zXf zT znl d 104 38 lo (.int x :: st) h = zXf zT znl d 104 39 lo (.int (x.toInt8.toInt32) :: st) h := (zXq (op := oUn (fun x => x.toInt8.toInt32) 39) zT_104 rfl).trans rfl
theorem q104_39 (d : Nat) (lo : zL) (st : List Value) (h : zH) : zXf zT znl d 104 39 lo st h = zB zT znl d 104 (oIast 40 lo st h) := zXq (op := oIast 40) zT_104 rfl
theorem q104_40 (d : Nat) (lo : zL) (st : List Value) (h : zH) : zXf zT znl d 104 40 lo st h = zXf zT znl d 104 61 lo st h := (zXq (op := oGoto 61) zT_104 rfl).trans rfl
theorem q104_43 (d : Nat) (x : Nat) (l : zL) (st : List Value) (h : zH) : zXf zT znl d 104 43 (.ref x :: l) st h = zXf zT znl d 104 44 (.ref x :: l) (.ref x :: st) h := (zXq (op := oAl 0 44) zT_104 rfl).trans rfl
theorem q104_44 (d : Nat) (lo : zL) (st : List Value) (h : zH) : zXf zT znl d 104 44 lo st h = zB zT znl d 104 (oGf 2 0 47 lo st h) := zXq (op := oGf 2 0 47) zT_104 rfl
theorem q104_47 (d : Nat) (a0 : Value) (x : Int32) (l : zL) (st : List Value) (h : zH) : zXf zT znl d 104 47 (a0 :: .int x :: l) st h = zXf zT znl d 104 48 (a0 :: .int x :: l) (.int x :: st) h := (zXq (op := oIl 1 48) zT_104 rfl).trans rfl
theorem q104_48 (d : Nat) (a0 : Value) (a1 : Value) (x : Int32) (l : zL) (st : List Value) (h : zH) : zXf zT znl d 104 48 (a0 :: a1 :: .int x :: l) st h = zXf zT znl d 104 49 (a0 :: a1 :: .int x :: l) (.int x :: st) h := (zXq (op := oIl 2 49) zT_104 rfl).trans rfl
theorem q104_49 (d : Nat) (lo : zL) (x : Int32) (st : List Value) (h : zH) : zXf zT znl d 104 49 lo (.int x :: st) h = zXf zT znl d 104 50 lo (.int (x.toInt16.toInt32) :: st) h := (zXq (op := oUn (fun x => x.toInt16.toInt32) 50) zT_104 rfl).trans rfl
theorem q104_50 (d : Nat) (lo : zL) (st : List Value) (h : zH) : zXf zT znl d 104 50 lo st h = zB zT znl d 104 (oIast 51 lo st h) := zXq (op := oIast 51) zT_104 rfl
theorem q104_51 (d : Nat) (lo : zL) (st : List Value) (h : zH) : zXf zT znl d 104 51 lo st h = zXf zT znl d 104 61 lo st h := (zXq (op := oGoto 61) zT_104 rfl).trans rfl
theorem q104_54 (d : Nat) (x : Nat) (l : zL) (st : List Value) (h : zH) : zXf zT znl d 104 54 (.ref x :: l) st h = zXf zT znl d 104 55 (.ref x :: l) (.ref x :: st) h := (zXq (op := oAl 0 55) zT_104 rfl).trans rfl
theorem q104_55 (d : Nat) (lo : zL) (st : List Value) (h : zH) : zXf zT znl d 104 55 lo st h = zB zT znl d 104 (oGf 2 0 58 lo st h) := zXq (op := oGf 2 0 58) zT_104 rfl
theorem q104_58 (d : Nat) (a0 : Value) (x : Int32) (l : zL) (st : List Value) (h : zH) : zXf zT znl d 104 58 (a0 :: .int x :: l) st h = zXf zT znl d 104 59 (a0 :: .int x :: l) (.int x :: st) h := (zXq (op := oIl 1 59) zT_104 rfl).trans rfl
theorem q104_59 (d : Nat) (a0 : Value) (a1 : Value) (x : Int32) (l : zL) (st : List Value) (h : zH) : zXf zT znl d 104 59 (a0 :: a1 :: .int x :: l) st h = zXf zT znl d 104 60 (a0 :: a1 :: .int x :: l) (.int x :: st) h := (zXq (op := oIl 2 60) zT_104 rfl).trans rfl
theorem q104_60 (d : Nat) (lo : zL) (st : List Value) (h : zH) : zXf zT znl d 104 60 lo st h = zB zT znl d 104 (oIast 61 lo st h) := zXq (op := oIast 61) zT_104 rfl
theorem q104_61 (d : Nat) (lo : zL) (h : zH) : zXf zT znl d 104 61 lo [] h = some (none, h) := (zXq (op := oRet) zT_104 rfl).trans rfl
theorem q105_0 (d : Nat) (a0 : Value) (a1 : Value) (x : Int32) (l : zL) (st : List Value) (h : zH) : zXf zT znl d 105 0 (a0 :: a1 :: .int x :: l) st h = zXf zT znl d 105 1 (a0 :: a1 :: .int x :: l) (.int x :: st) h := (zXq (op := oIl 2 1) zT_105 rfl).trans rfl
theorem q105_1 (d : Nat) (lo : zL) (x : Int32) (st : List Value) (h : zH) : zXf zT znl d 105 1 lo (.int x :: st) h = if x < nI 0 then zXf zT znl d 105 30 lo st h else zXf zT znl d 105 4 lo st h := (zXq (op := oLt0 30 4) zT_105 rfl).trans (zB_if _ _)
theorem q105_4 (d : Nat) (a0 : Value) (x : Int32) (l : zL) (st : List Value) (h : zH) : zXf zT znl d 105 4 (a0 :: .int x :: l) st h = zXf zT znl d 105 5 (a0 :: .int x :: l) (.int x :: st) h := (zXq (op := oIl 1 5) zT_105 rfl).trans rfl
theorem q105_5 (d : Nat) (lo : zL) (x : Int32) (st : List Value) (h : zH) : zXf zT znl d 105 5 lo (.int x :: st) h = if x < nI 0 then zXf zT znl d 105 30 lo st h else zXf zT znl d 105 8 lo st h := (zXq (op := oLt0 30 8) zT_105 rfl).trans (zB_if _ _)
theorem q105_8 (d : Nat) (a0 : Value) (x : Int32) (l : zL) (st : List Value) (h : zH) : zXf zT znl d 105 8 (a0 :: .int x :: l) st h = zXf zT znl d 105 9 (a0 :: .int x :: l) (.int x :: st) h := (zXq (op := oIl 1 9) zT_105 rfl).trans rfl
theorem q105_9 (d : Nat) (x : Nat) (l : zL) (st : List Value) (h : zH) : zXf zT znl d 105 9 (.ref x :: l) st h = zXf zT znl d 105 10 (.ref x :: l) (.ref x :: st) h := (zXq (op := oAl 0 10) zT_105 rfl).trans rfl
theorem q105_10 (d : Nat) (lo : zL) (st : List Value) (h : zH) : zXf zT znl d 105 10 lo st h = zB zT znl d 105 (oGf 2 2 13 lo st h) := zXq (op := oGf 2 2 13) zT_105 rfl
theorem q105_13 (d : Nat) (lo : zL) (x y : Int32) (st : List Value) (h : zH) : zXf zT znl d 105 13 lo (.int y :: .int x :: st) h = if y < x then zXf zT znl d 105 30 lo st h else zXf zT znl d 105 16 lo st h := (zXq (op := oCGt 30 16) zT_105 rfl).trans (zB_if _ _)
theorem q105_16 (d : Nat) (a0 : Value) (a1 : Value) (x : Int32) (l : zL) (st : List Value) (h : zH) : zXf zT znl d 105 16 (a0 :: a1 :: .int x :: l) st h = zXf zT znl d 105 17 (a0 :: a1 :: .int x :: l) (.int x :: st) h := (zXq (op := oIl 2 17) zT_105 rfl).trans rfl
theorem q105_17 (d : Nat) (x : Nat) (l : zL) (st : List Value) (h : zH) : zXf zT znl d 105 17 (.ref x :: l) st h = zXf zT znl d 105 18 (.ref x :: l) (.ref x :: st) h := (zXq (op := oAl 0 18) zT_105 rfl).trans rfl
theorem q105_18 (d : Nat) (lo : zL) (st : List Value) (h : zH) : zXf zT znl d 105 18 lo st h = zB zT znl d 105 (oGf 2 2 21 lo st h) := zXq (op := oGf 2 2 21) zT_105 rfl
theorem q105_21 (d : Nat) (a0 : Value) (x : Int32) (l : zL) (st : List Value) (h : zH) : zXf zT znl d 105 21 (a0 :: .int x :: l) st h = zXf zT znl d 105 22 (a0 :: .int x :: l) (.int x :: st) h := (zXq (op := oIl 1 22) zT_105 rfl).trans rfl
theorem q105_22 (d : Nat) (lo : zL) (x y : Int32) (st : List Value) (h : zH) : zXf zT znl d 105 22 lo (.int y :: .int x :: st) h = zXf zT znl d 105 23 lo (.int (x - y) :: st) h := (zXq (op := oBin (fun x y => x - y) 23) zT_105 rfl).trans rfl
theorem q105_23 (d : Nat) (lo : zL) (x y : Int32) (st : List Value) (h : zH) : zXf zT znl d 105 23 lo (.int y :: .int x :: st) h = if y < x then zXf zT znl d 105 30 lo st h else zXf zT znl d 105 26 lo st h := (zXq (op := oCGt 30 26) zT_105 rfl).trans (zB_if _ _)
theorem q105_26 (d : Nat) (lo : zL) (st : List Value) (h : zH) : zXf zT znl d 105 26 lo st h = zXf zT znl d 105 27 lo (.int (nI 1) :: st) h := (zXq (op := oPush 1 27) zT_105 rfl).trans rfl
theorem q105_27 (d : Nat) (lo : zL) (st : List Value) (h : zH) : zXf zT znl d 105 27 lo st h = zXf zT znl d 105 31 lo st h := (zXq (op := oGoto 31) zT_105 rfl).trans rfl
theorem q105_30 (d : Nat) (lo : zL) (st : List Value) (h : zH) : zXf zT znl d 105 30 lo st h = zXf zT znl d 105 31 lo (.int (nI 0) :: st) h := (zXq (op := oPush 0 31) zT_105 rfl).trans rfl
theorem q105_31 (d : Nat) (lo : zL) (x : Int32) (h : zH) (hx : x = 0 ∨ x = 1) : zXf zT znl d 105 31 lo [.int x] h = some (some (.int x), h) := by
  refine (zXq (op := oZret) zT_105 rfl).trans ?_
  simp only [oZret, if_pos hx, zB_end]
theorem q204_0 (d : Nat) (x : Int32) (l : zL) (st : List Value) (h : zH) : zXf zT znl d 204 0 (.int x :: l) st h = zXf zT znl d 204 1 (.int x :: l) (.int x :: st) h := (zXq (op := oIl 0 1) zT_204 rfl).trans rfl
theorem q204_1 (d : Nat) (lo : zL) (x : Int32) (st : List Value) (h : zH) : zXf zT znl d 204 1 lo (.int x :: st) h = if nI 0 ≤ x then zXf zT znl d 204 9 lo st h else zXf zT znl d 204 4 lo st h := (zXq (op := oGe0 9 4) zT_204 rfl).trans (zB_if _ _)
theorem q204_4 (d : Nat) (x : Int32) (l : zL) (st : List Value) (h : zH) : zXf zT znl d 204 4 (.int x :: l) st h = zXf zT znl d 204 5 (.int x :: l) (.int x :: st) h := (zXq (op := oIl 0 5) zT_204 rfl).trans rfl
theorem q204_5 (d : Nat) (lo : zL) (x : Int32) (st : List Value) (h : zH) : zXf zT znl d 204 5 lo (.int x :: st) h = zXf zT znl d 204 6 lo (.int (-x) :: st) h := (zXq (op := oUn (fun x => -x) 6) zT_204 rfl).trans rfl
theorem q204_6 (d : Nat) (lo : zL) (st : List Value) (h : zH) : zXf zT znl d 204 6 lo st h = zXf zT znl d 204 10 lo st h := (zXq (op := oGoto 10) zT_204 rfl).trans rfl
theorem q204_9 (d : Nat) (x : Int32) (l : zL) (st : List Value) (h : zH) : zXf zT znl d 204 9 (.int x :: l) st h = zXf zT znl d 204 10 (.int x :: l) (.int x :: st) h := (zXq (op := oIl 0 10) zT_204 rfl).trans rfl
theorem q204_10 (d : Nat) (lo : zL) (x : Int32) (h : zH) : zXf zT znl d 204 10 lo [.int x] h = some (some (.int x), h) := (zXq (op := oIret) zT_204 rfl).trans rfl
theorem q205_0 (d : Nat) (x : Int32) (l : zL) (st : List Value) (h : zH) : zXf zT znl d 205 0 (.int x :: l) st h = zXf zT znl d 205 1 (.int x :: l) (.int x :: st) h := (zXq (op := oIl 0 1) zT_205 rfl).trans rfl
theorem q205_1 (d : Nat) (a0 : Value) (x : Int32) (l : zL) (st : List Value) (h : zH) : zXf zT znl d 205 1 (a0 :: .int x :: l) st h = zXf zT znl d 205 2 (a0 :: .int x :: l) (.int x :: st) h := (zXq (op := oIl 1 2) zT_205 rfl).trans rfl
theorem q205_2 (d : Nat) (lo : zL) (x y : Int32) (st : List Value) (h : zH) : zXf zT znl d 205 2 lo (.int y :: .int x :: st) h = if x < y then zXf zT znl d 205 9 lo st h else zXf zT znl d 205 5 lo st h := (zXq (op := oCLt 9 5) zT_205 rfl).trans (zB_if _ _)
theorem q205_5 (d : Nat) (x : Int32) (l : zL) (st : List Value) (h : zH) : zXf zT znl d 205 5 (.int x :: l) st h = zXf zT znl d 205 6 (.int x :: l) (.int x :: st) h := (zXq (op := oIl 0 6) zT_205 rfl).trans rfl
theorem q205_6 (d : Nat) (lo : zL) (st : List Value) (h : zH) : zXf zT znl d 205 6 lo st h = zXf zT znl d 205 10 lo st h := (zXq (op := oGoto 10) zT_205 rfl).trans rfl
theorem q205_9 (d : Nat) (a0 : Value) (x : Int32) (l : zL) (st : List Value) (h : zH) : zXf zT znl d 205 9 (a0 :: .int x :: l) st h = zXf zT znl d 205 10 (a0 :: .int x :: l) (.int x :: st) h := (zXq (op := oIl 1 10) zT_205 rfl).trans rfl
theorem q205_10 (d : Nat) (lo : zL) (x : Int32) (h : zH) : zXf zT znl d 205 10 lo [.int x] h = some (some (.int x), h) := (zXq (op := oIret) zT_205 rfl).trans rfl
theorem q206_0 (d : Nat) (x : Int32) (l : zL) (st : List Value) (h : zH) : zXf zT znl d 206 0 (.int x :: l) st h = zXf zT znl d 206 1 (.int x :: l) (.int x :: st) h := (zXq (op := oIl 0 1) zT_206 rfl).trans rfl
theorem q206_1 (d : Nat) (a0 : Value) (x : Int32) (l : zL) (st : List Value) (h : zH) : zXf zT znl d 206 1 (a0 :: .int x :: l) st h = zXf zT znl d 206 2 (a0 :: .int x :: l) (.int x :: st) h := (zXq (op := oIl 1 2) zT_206 rfl).trans rfl
theorem q206_2 (d : Nat) (lo : zL) (x y : Int32) (st : List Value) (h : zH) : zXf zT znl d 206 2 lo (.int y :: .int x :: st) h = if y < x then zXf zT znl d 206 9 lo st h else zXf zT znl d 206 5 lo st h := (zXq (op := oCGt 9 5) zT_206 rfl).trans (zB_if _ _)
theorem q206_5 (d : Nat) (x : Int32) (l : zL) (st : List Value) (h : zH) : zXf zT znl d 206 5 (.int x :: l) st h = zXf zT znl d 206 6 (.int x :: l) (.int x :: st) h := (zXq (op := oIl 0 6) zT_206 rfl).trans rfl
theorem q206_6 (d : Nat) (lo : zL) (st : List Value) (h : zH) : zXf zT znl d 206 6 lo st h = zXf zT znl d 206 10 lo st h := (zXq (op := oGoto 10) zT_206 rfl).trans rfl
theorem q206_9 (d : Nat) (a0 : Value) (x : Int32) (l : zL) (st : List Value) (h : zH) : zXf zT znl d 206 9 (a0 :: .int x :: l) st h = zXf zT znl d 206 10 (a0 :: .int x :: l) (.int x :: st) h := (zXq (op := oIl 1 10) zT_206 rfl).trans rfl
theorem q206_10 (d : Nat) (lo : zL) (x : Int32) (h : zH) : zXf zT znl d 206 10 lo [.int x] h = some (some (.int x), h) := (zXq (op := oIret) zT_206 rfl).trans rfl
theorem q207_0 (d : Nat) (lo : zL) (st : List Value) (h : zH) : zXf zT znl d 207 0 lo st h = zXf zT znl d 207 3 lo (.int (nI 1) :: st) h := (zXq (op := oPush 1 3) zT_207 rfl).trans rfl
theorem q207_3 (d : Nat) (lo : zL) (x : Int32) (st : List Value) (h : zH) : zXf zT znl d 207 3 lo (.int x :: st) h = if x = nI 0 then zXf zT znl d 207 17 lo st h else zXf zT znl d 207 6 lo st h := (zXq (op := oEq0 17 6) zT_207 rfl).trans (zB_if _ _)
theorem q207_6 (d : Nat) (x : Nat) (l : zL) (st : List Value) (h : zH) : zXf zT znl d 207 6 (.ref x :: l) st h = zXf zT znl d 207 7 (.ref x :: l) (.ref x :: st) h := (zXq (op := oAl 0 7) zT_207 rfl).trans rfl
theorem q207_7 (d : Nat) (lo : zL) (st : List Value) (h : zH) : zXf zT znl d 207 7 lo st h = zB zT znl d 207 (oStrC 10 lo st h) := zXq (op := oStrC 10) zT_207 rfl
theorem q207_10 (d : Nat) (lo : zL) (x : Int32) (st : List Value) (h : zH) : zXf zT znl d 207 10 lo (.int x :: st) h = if x = nI 0 then zXf zT znl d 207 13 lo st h else zXf zT znl d 207 17 lo st h := (zXq (op := oNe0 17 13) zT_207 rfl).trans (zB_if _ _)
theorem q207_13 (d : Nat) (lo : zL) (st : List Value) (h : zH) : zXf zT znl d 207 13 lo st h = zXf zT znl d 207 14 lo (.int (nI 1) :: st) h := (zXq (op := oPush 1 14) zT_207 rfl).trans rfl
theorem q207_14 (d : Nat) (lo : zL) (st : List Value) (h : zH) : zXf zT znl d 207 14 lo st h = zXf zT znl d 207 18 lo st h := (zXq (op := oGoto 18) zT_207 rfl).trans rfl
theorem q207_17 (d : Nat) (lo : zL) (st : List Value) (h : zH) : zXf zT znl d 207 17 lo st h = zXf zT znl d 207 18 lo (.int (nI 0) :: st) h := (zXq (op := oPush 0 18) zT_207 rfl).trans rfl
theorem q207_18 (d : Nat) (lo : zL) (x : Int32) (h : zH) (hx : x = 0 ∨ x = 1) : zXf zT znl d 207 18 lo [.int x] h = some (some (.int x), h) := by
  refine (zXq (op := oZret) zT_207 rfl).trans ?_
  simp only [oZret, if_pos hx, zB_end]
theorem q208_0 (d : Nat) (lo : zL) (st : List Value) (h : zH) : zXf zT znl d 208 0 lo st h = zXf zT znl d 208 3 lo (.int (nI 1) :: st) h := (zXq (op := oPush 1 3) zT_208 rfl).trans rfl
theorem q208_3 (d : Nat) (lo : zL) (x : Int32) (st : List Value) (h : zH) : zXf zT znl d 208 3 lo (.int x :: st) h = if x = nI 0 then zXf zT znl d 208 13 lo st h else zXf zT znl d 208 6 lo st h := (zXq (op := oEq0 13 6) zT_208 rfl).trans (zB_if _ _)
theorem q208_6 (d : Nat) (x : Nat) (l : zL) (st : List Value) (h : zH) : zXf zT znl d 208 6 (.ref x :: l) st h = zXf zT znl d 208 7 (.ref x :: l) (.ref x :: st) h := (zXq (op := oAl 0 7) zT_208 rfl).trans rfl
theorem q208_7 (d : Nat) (lo : zL) (st : List Value) (h : zH) : zXf zT znl d 208 7 lo st h = zB zT znl d 208 (oStrC 10 lo st h) := zXq (op := oStrC 10) zT_208 rfl
theorem q208_10 (d : Nat) (lo : zL) (st : List Value) (h : zH) : zXf zT znl d 208 10 lo st h = zXf zT znl d 208 14 lo st h := (zXq (op := oGoto 14) zT_208 rfl).trans rfl
theorem q208_13 (d : Nat) (lo : zL) (st : List Value) (h : zH) : zXf zT znl d 208 13 lo st h = zXf zT znl d 208 14 lo (.int (nI 1) :: st) h := (zXq (op := oPush 1 14) zT_208 rfl).trans rfl
theorem q208_14 (d : Nat) (lo : zL) (x : Int32) (h : zH) (hx : x = 0 ∨ x = 1) : zXf zT znl d 208 14 lo [.int x] h = some (some (.int x), h) := by
  refine (zXq (op := oZret) zT_208 rfl).trans ?_
  simp only [oZret, if_pos hx, zB_end]
theorem q209_0 (d : Nat) (x : Nat) (l : zL) (st : List Value) (h : zH) : zXf zT znl d 209 0 (.ref x :: l) st h = zXf zT znl d 209 1 (.ref x :: l) (.ref x :: st) h := (zXq (op := oAl 0 1) zT_209 rfl).trans rfl
theorem q209_1 (d : Nat) (lo : zL) (st : List Value) (h : zH) : zXf zT znl d 209 1 lo st h = zB zT znl d 209 (oStrV 4 lo st h) := zXq (op := oStrV 4) zT_209 rfl
theorem q209_4 (d : Nat) (lo : zL) (st : List Value) (h : zH) : zXf zT znl d 209 4 lo st h = zB zT znl d 209 (oAlen 5 lo st h) := zXq (op := oAlen 5) zT_209 rfl
theorem q209_5 (d : Nat) (x : Nat) (l : zL) (st : List Value) (h : zH) : zXf zT znl d 209 5 (.ref x :: l) st h = zXf zT znl d 209 6 (.ref x :: l) (.ref x :: st) h := (zXq (op := oAl 0 6) zT_209 rfl).trans rfl
theorem q209_6 (d : Nat) (lo : zL) (x0 s0 : Value) (h : zH) (hr : zrc 99 [x0] = true) : zXf zT znl d 209 6 lo [x0, s0] h = (zCf zT znl d 208 [x0] h).bind fun o => zXf zT znl d 209 9 lo (o.1.toList ++ [s0]) o.2 := (zXq (op := oC1 99 208 9) zT_209 rfl).trans (zB_cl rfl hr)
theorem q209_9 (d : Nat) (lo : zL) (x y : Int32) (st : List Value) (h : zH) : zXf zT znl d 209 9 lo (.int y :: .int x :: st) h = zXf zT znl d 209 10 lo (.int (x >>> (y &&& 31)) :: st) h := (zXq (op := oBin (fun x y => x >>> (y &&& 31)) 10) zT_209 rfl).trans rfl
theorem q209_10 (d : Nat) (lo : zL) (x : Int32) (h : zH) : zXf zT znl d 209 10 lo [.int x] h = some (some (.int x), h) := (zXq (op := oIret) zT_209 rfl).trans rfl
theorem q210_0 (d : Nat) (x : Nat) (l : zL) (st : List Value) (h : zH) : zXf zT znl d 210 0 (.ref x :: l) st h = zXf zT znl d 210 1 (.ref x :: l) (.ref x :: st) h := (zXq (op := oAl 0 1) zT_210 rfl).trans rfl
theorem q210_1 (d : Nat) (lo : zL) (x0 : Value) (h : zH) (hr : zrc 99 [x0] = true) : zXf zT znl d 210 1 lo [x0] h = (zCf zT znl d 207 [x0] h).bind fun o => zXf zT znl d 210 4 lo (o.1.toList ++ []) o.2 := (zXq (op := oC1 99 207 4) zT_210 rfl).trans (zB_cl rfl hr)
theorem q210_4 (d : Nat) (lo : zL) (x : Int32) (st : List Value) (h : zH) : zXf zT znl d 210 4 lo (.int x :: st) h = if x = nI 0 then zXf zT znl d 210 23 lo st h else zXf zT znl d 210 7 lo st h := (zXq (op := oEq0 23 7) zT_210 rfl).trans (zB_if _ _)
theorem q210_7 (d : Nat) (x : Nat) (l : zL) (st : List Value) (h : zH) : zXf zT znl d 210 7 (.ref x :: l) st h = zXf zT znl d 210 8 (.ref x :: l) (.ref x :: st) h := (zXq (op := oAl 0 8) zT_210 rfl).trans rfl
theorem q210_8 (d : Nat) (lo : zL) (st : List Value) (h : zH) : zXf zT znl d 210 8 lo st h = zB zT znl d 210 (oStrV 11 lo st h) := zXq (op := oStrV 11) zT_210 rfl
theorem q210_11 (d : Nat) (a0 : Value) (x : Int32) (l : zL) (st : List Value) (h : zH) : zXf zT znl d 210 11 (a0 :: .int x :: l) st h = zXf zT znl d 210 12 (a0 :: .int x :: l) (.int x :: st) h := (zXq (op := oIl 1 12) zT_210 rfl).trans rfl
theorem q210_12 (d : Nat) (a0 : Value) (a1 : Value) (x : Int32) (l : zL) (st : List Value) (h : zH) : zXf zT znl d 210 12 (a0 :: a1 :: .int x :: l) st h = zXf zT znl d 210 13 (a0 :: a1 :: .int x :: l) (.int x :: st) h := (zXq (op := oIl 2 13) zT_210 rfl).trans rfl
theorem q210_13 (d : Nat) (x : Nat) (l : zL) (st : List Value) (h : zH) : zXf zT znl d 210 13 (.ref x :: l) st h = zXf zT znl d 210 14 (.ref x :: l) (.ref x :: st) h := (zXq (op := oAl 0 14) zT_210 rfl).trans rfl
theorem q210_14 (d : Nat) (lo : zL) (x0 s0 s1 s2 : Value) (h : zH) (hr : zrc 99 [x0] = true) : zXf zT znl d 210 14 lo [x0, s0, s1, s2] h = (zCf zT znl d 209 [x0] h).bind fun o => zXf zT znl d 210 17 lo (o.1.toList ++ [s0, s1, s2]) o.2 := (zXq (op := oC1 99 209 17) zT_210 rfl).trans (zB_cl rfl hr)
theorem q210_17 (d : Nat) (lo : zL) (x0 x1 x2 x3 : Value) (h : zH) : zXf zT znl d 210 17 lo [x3, x2, x1, x0] h = (zCf zT znl d 214 [x0, x1, x2, x3] h).bind fun o => zXf zT znl d 210 20 lo (o.1.toList ++ []) o.2 := (zXq (op := oC4 98 214 20) zT_210 rfl).trans (zB_cl rfl rfl)
theorem q210_20 (d : Nat) (lo : zL) (st : List Value) (h : zH) : zXf zT znl d 210 20 lo st h = zXf zT znl d 210 36 lo st h := (zXq (op := oGoto 36) zT_210 rfl).trans rfl
theorem q210_23 (d : Nat) (x : Nat) (l : zL) (st : List Value) (h : zH) : zXf zT znl d 210 23 (.ref x :: l) st h = zXf zT znl d 210 24 (.ref x :: l) (.ref x :: st) h := (zXq (op := oAl 0 24) zT_210 rfl).trans rfl
theorem q210_24 (d : Nat) (lo : zL) (st : List Value) (h : zH) : zXf zT znl d 210 24 lo st h = zB zT znl d 210 (oStrV 27 lo st h) := zXq (op := oStrV 27) zT_210 rfl
theorem q210_27 (d : Nat) (a0 : Value) (x : Int32) (l : zL) (st : List Value) (h : zH) : zXf zT znl d 210 27 (a0 :: .int x :: l) st h = zXf zT znl d 210 28 (a0 :: .int x :: l) (.int x :: st) h := (zXq (op := oIl 1 28) zT_210 rfl).trans rfl
theorem q210_28 (d : Nat) (a0 : Value) (a1 : Value) (x : Int32) (l : zL) (st : List Value) (h : zH) : zXf zT znl d 210 28 (a0 :: a1 :: .int x :: l) st h = zXf zT znl d 210 29 (a0 :: a1 :: .int x :: l) (.int x :: st) h := (zXq (op := oIl 2 29) zT_210 rfl).trans rfl
theorem q210_29 (d : Nat) (x : Nat) (l : zL) (st : List Value) (h : zH) : zXf zT znl d 210 29 (.ref x :: l) st h = zXf zT znl d 210 30 (.ref x :: l) (.ref x :: st) h := (zXq (op := oAl 0 30) zT_210 rfl).trans rfl
theorem q210_30 (d : Nat) (lo : zL) (x0 s0 s1 s2 : Value) (h : zH) (hr : zrc 99 [x0] = true) : zXf zT znl d 210 30 lo [x0, s0, s1, s2] h = (zCf zT znl d 209 [x0] h).bind fun o => zXf zT znl d 210 33 lo (o.1.toList ++ [s0, s1, s2]) o.2 := (zXq (op := oC1 99 209 33) zT_210 rfl).trans (zB_cl rfl hr)
theorem q210_36 (d : Nat) (lo : zL) (x : Int32) (h : zH) : zXf zT znl d 210 36 lo [.int x] h = some (some (.int x), h) := (zXq (op := oIret) zT_210 rfl).trans rfl
theorem q211_0 (d : Nat) (x : Nat) (l : zL) (st : List Value) (h : zH) : zXf zT znl d 211 0 (.ref x :: l) st h = zXf zT znl d 211 1 (.ref x :: l) (.ref x :: st) h := (zXq (op := oAl 0 1) zT_211 rfl).trans rfl
theorem q211_1 (d : Nat) (a0 : Value) (x : Int32) (l : zL) (st : List Value) (h : zH) : zXf zT znl d 211 1 (a0 :: .int x :: l) st h = zXf zT znl d 211 2 (a0 :: .int x :: l) (.int x :: st) h := (zXq (op := oIl 1 2) zT_211 rfl).trans rfl
theorem q211_2 (d : Nat) (lo : zL) (st : List Value) (h : zH) : zXf zT znl d 211 2 lo st h = zXf zT znl d 211 3 lo (.int (nI 0) :: st) h := (zXq (op := oPush 0 3) zT_211 rfl).trans rfl
theorem q211_3 (d : Nat) (lo : zL) (x0 x1 x2 : Value) (h : zH) (hr : zrc 99 [x0, x1, x2] = true) : zXf zT znl d 211 3 lo [x2, x1, x0] h = (zCf zT znl d 210 [x0, x1, x2] h).bind fun o => zXf zT znl d 211 6 lo (o.1.toList ++ []) o.2 := (zXq (op := oC3 99 210 6) zT_211 rfl).trans (zB_cl rfl hr)
theorem q211_6 (d : Nat) (lo : zL) (x : Int32) (h : zH) : zXf zT znl d 211 6 lo [.int x] h = some (some (.int x), h) := (zXq (op := oIret) zT_211 rfl).trans rfl
theorem q212_0 (d : Nat) (x : Int32) (l : zL) (st : List Value) (h : zH) : zXf zT znl d 212 0 (.int x :: l) st h = zXf zT znl d 212 1 (.int x :: l) (.int x :: st) h := (zXq (op := oIl 0 1) zT_212 rfl).trans rfl
theorem q212_1 (d : Nat) (lo : zL) (x : Int32) (st : List Value) (h : zH) : zXf zT znl d 212 1 lo (.int x :: st) h = if x < nI 0 then zXf zT znl d 212 15 lo st h else zXf zT znl d 212 4 lo st h := (zXq (op := oLt0 15 4) zT_212 rfl).trans (zB_if _ _)
theorem q212_4 (d : Nat) (x : Int32) (l : zL) (st : List Value) (h : zH) : zXf zT znl d 212 4 (.int x :: l) st h = zXf zT znl d 212 5 (.int x :: l) (.int x :: st) h := (zXq (op := oIl 0 5) zT_212 rfl).trans rfl
theorem q212_5 (d : Nat) (lo : zL) (st : List Value) (h : zH) : zXf zT znl d 212 5 lo st h = zXf zT znl d 212 8 lo (.int (nI 255) :: st) h := (zXq (op := oPush 255 8) zT_212 rfl).trans rfl
theorem q212_8 (d : Nat) (lo : zL) (x y : Int32) (st : List Value) (h : zH) : zXf zT znl d 212 8 lo (.int y :: .int x :: st) h = if y < x then zXf zT znl d 212 15 lo st h else zXf zT znl d 212 11 lo st h := (zXq (op := oCGt 15 11) zT_212 rfl).trans (zB_if _ _)
theorem q212_11 (d : Nat) (lo : zL) (st : List Value) (h : zH) : zXf zT znl d 212 11 lo st h = zXf zT znl d 212 12 lo (.int (nI 1) :: st) h := (zXq (op := oPush 1 12) zT_212 rfl).trans rfl
theorem q212_12 (d : Nat) (lo : zL) (st : List Value) (h : zH) : zXf zT znl d 212 12 lo st h = zXf zT znl d 212 16 lo st h := (zXq (op := oGoto 16) zT_212 rfl).trans rfl
theorem q212_15 (d : Nat) (lo : zL) (st : List Value) (h : zH) : zXf zT znl d 212 15 lo st h = zXf zT znl d 212 16 lo (.int (nI 0) :: st) h := (zXq (op := oPush 0 16) zT_212 rfl).trans rfl
theorem q212_16 (d : Nat) (lo : zL) (x : Int32) (h : zH) (hx : x = 0 ∨ x = 1) : zXf zT znl d 212 16 lo [.int x] h = some (some (.int x), h) := by
  refine (zXq (op := oZret) zT_212 rfl).trans ?_
  simp only [oZret, if_pos hx, zB_end]
theorem q213_0 (d : Nat) (a0 : Value) (x : Int32) (l : zL) (st : List Value) (h : zH) : zXf zT znl d 213 0 (a0 :: .int x :: l) st h = zXf zT znl d 213 1 (a0 :: .int x :: l) (.int x :: st) h := (zXq (op := oIl 1 1) zT_213 rfl).trans rfl
theorem q213_1 (d : Nat) (lo : zL) (x : Int32) (st : List Value) (h : zH) : zXf zT znl d 213 1 lo (.int x :: st) h = zXf zT znl d 213 2 lo (.int (x.toInt8.toInt32) :: st) h := (zXq (op := oUn (fun x => x.toInt8.toInt32) 2) zT_213 rfl).trans rfl
theorem q213_2 (d : Nat) (a0 : Value) (a1 : Value) (a2 : Value) (a3 : Value) (a4 : Value) (x : Int32) (l : zL) (st : List Value) (h : zH) (hz : zokv a3 = true) : zXf zT znl d 213 2 (a0 :: a1 :: a2 :: a3 :: a4 :: l) (.int x :: st) h = zXf zT znl d 213 4 (a0 :: a1 :: a2 :: a3 :: .int x :: l) st h := by
  refine (zXq (op := oIs 4 4) zT_213 rfl).trans ?_
  simp only [oIs, zok, hz, Bool.and_self, if_true, List.set_cons_succ, List.set_cons_zero, zB_go]
theorem q213_4 (d : Nat) (a0 : Value) (a1 : Value) (x : Int32) (l : zL) (st : List Value) (h : zH) : zXf zT znl d 213 4 (a0 :: a1 :: .int x :: l) st h = zXf zT znl d 213 5 (a0 :: a1 :: .int x :: l) (.int x :: st) h := (zXq (op := oIl 2 5) zT_213 rfl).trans rfl
theorem q213_5 (d : Nat) (a0 : Value) (a1 : Value) (a2 : Value) (a3 : Value) (a4 : Value) (a5 : Value) (x : Int32) (l : zL) (st : List Value) (h : zH) (hz : zokv a4 = true) : zXf zT znl d 213 5 (a0 :: a1 :: a2 :: a3 :: a4 :: a5 :: l) (.int x :: st) h = zXf zT znl d 213 7 (a0 :: a1 :: a2 :: a3 :: a4 :: .int x :: l) st h := by
  refine (zXq (op := oIs 5 7) zT_213 rfl).trans ?_
  simp only [oIs, zok, hz, Bool.and_self, if_true, List.set_cons_succ, List.set_cons_zero, zB_go]
theorem q213_7 (d : Nat) (a0 : Value) (a1 : Value) (a2 : Value) (a3 : Value) (a4 : Value) (x : Int32) (l : zL) (st : List Value) (h : zH) : zXf zT znl d 213 7 (a0 :: a1 :: a2 :: a3 :: a4 :: .int x :: l) st h = zXf zT znl d 213 9 (a0 :: a1 :: a2 :: a3 :: a4 :: .int x :: l) (.int x :: st) h := (zXq (op := oIl 5 9) zT_213 rfl).trans rfl
theorem q213_9 (d : Nat) (a0 : Value) (a1 : Value) (a2 : Value) (x : Int32) (l : zL) (st : List Value) (h : zH) : zXf zT znl d 213 9 (a0 :: a1 :: a2 :: .int x :: l) st h = zXf zT znl d 213 10 (a0 :: a1 :: a2 :: .int x :: l) (.int x :: st) h := (zXq (op := oIl 3 10) zT_213 rfl).trans rfl
theorem q213_10 (d : Nat) (lo : zL) (x y : Int32) (st : List Value) (h : zH) : zXf zT znl d 213 10 lo (.int y :: .int x :: st) h = if y ≤ x then zXf zT znl d 213 31 lo st h else zXf zT znl d 213 13 lo st h := (zXq (op := oCGe 31 13) zT_213 rfl).trans (zB_if _ _)
theorem q213_13 (d : Nat) (x : Nat) (l : zL) (st : List Value) (h : zH) : zXf zT znl d 213 13 (.ref x :: l) st h = zXf zT znl d 213 14 (.ref x :: l) (.ref x :: st) h := (zXq (op := oAl 0 14) zT_213 rfl).trans rfl
theorem q213_14 (d : Nat) (a0 : Value) (a1 : Value) (a2 : Value) (a3 : Value) (a4 : Value) (x : Int32) (l : zL) (st : List Value) (h : zH) : zXf zT znl d 213 14 (a0 :: a1 :: a2 :: a3 :: a4 :: .int x :: l) st h = zXf zT znl d 213 16 (a0 :: a1 :: a2 :: a3 :: a4 :: .int x :: l) (.int x :: st) h := (zXq (op := oIl 5 16) zT_213 rfl).trans rfl
theorem q213_16 (d : Nat) (lo : zL) (st : List Value) (h : zH) : zXf zT znl d 213 16 lo st h = zB zT znl d 213 (oBald 17 lo st h) := zXq (op := oBald 17) zT_213 rfl
theorem q213_17 (d : Nat) (a0 : Value) (a1 : Value) (a2 : Value) (a3 : Value) (x : Int32) (l : zL) (st : List Value) (h : zH) : zXf zT znl d 213 17 (a0 :: a1 :: a2 :: a3 :: .int x :: l) st h = zXf zT znl d 213 19 (a0 :: a1 :: a2 :: a3 :: .int x :: l) (.int x :: st) h := (zXq (op := oIl 4 19) zT_213 rfl).trans rfl
theorem q213_19 (d : Nat) (lo : zL) (x y : Int32) (st : List Value) (h : zH) : zXf zT znl d 213 19 lo (.int y :: .int x :: st) h = if x = y then zXf zT znl d 213 22 lo st h else zXf zT znl d 213 25 lo st h := (zXq (op := oCNe 25 22) zT_213 rfl).trans (zB_if _ _)
theorem q213_22 (d : Nat) (a0 : Value) (a1 : Value) (a2 : Value) (a3 : Value) (a4 : Value) (x : Int32) (l : zL) (st : List Value) (h : zH) : zXf zT znl d 213 22 (a0 :: a1 :: a2 :: a3 :: a4 :: .int x :: l) st h = zXf zT znl d 213 24 (a0 :: a1 :: a2 :: a3 :: a4 :: .int x :: l) (.int x :: st) h := (zXq (op := oIl 5 24) zT_213 rfl).trans rfl
theorem q213_24 (d : Nat) (lo : zL) (x : Int32) (h : zH) : zXf zT znl d 213 24 lo [.int x] h = some (some (.int x), h) := (zXq (op := oIret) zT_213 rfl).trans rfl
theorem q213_25 (d : Nat) (a0 : Value) (a1 : Value) (a2 : Value) (a3 : Value) (a4 : Value) (x : Int32) (l : zL) (st : List Value) (h : zH) (hz : zokv a4 = true) : zXf zT znl d 213 25 (a0 :: a1 :: a2 :: a3 :: a4 :: .int x :: l) st h = zXf zT znl d 213 28 (a0 :: a1 :: a2 :: a3 :: a4 :: .int (x + nI 1) :: l) st h := by
  refine (zXq (op := oInc 5 1 28) zT_213 rfl).trans ?_
  simp only [oInc, List.getElem?_cons_succ, List.getElem?_cons_zero, zok, hz, Bool.and_self, if_true, List.set_cons_succ, List.set_cons_zero, zB_go]
  try rfl
theorem q213_28 (d : Nat) (lo : zL) (st : List Value) (h : zH) : zXf zT znl d 213 28 lo st h = zXf zT znl d 213 7 lo st h := (zXq (op := oGoto 7) zT_213 rfl).trans rfl
theorem q213_31 (d : Nat) (lo : zL) (st : List Value) (h : zH) : zXf zT znl d 213 31 lo st h = zXf zT znl d 213 32 lo (.int ((-1)) :: st) h := (zXq (op := oPush (-1) 32) zT_213 rfl).trans rfl
theorem q213_32 (d : Nat) (lo : zL) (x : Int32) (h : zH) : zXf zT znl d 213 32 lo [.int x] h = some (some (.int x), h) := (zXq (op := oIret) zT_213 rfl).trans rfl
theorem q214_0 (d : Nat) (a0 : Value) (x : Int32) (l : zL) (st : List Value) (h : zH) : zXf zT znl d 214 0 (a0 :: .int x :: l) st h = zXf zT znl d 214 1 (a0 :: .int x :: l) (.int x :: st) h := (zXq (op := oIl 1 1) zT_214 rfl).trans rfl
theorem q214_1 (d : Nat) (lo : zL) (x0 : Value) (h : zH) : zXf zT znl d 214 1 lo [x0] h = (zCf zT znl d 212 [x0] h).bind fun o => zXf zT znl d 214 4 lo (o.1.toList ++ []) o.2 := (zXq (op := oC1 98 212 4) zT_214 rfl).trans (zB_cl rfl rfl)
theorem q214_4 (d : Nat) (lo : zL) (x : Int32) (st : List Value) (h : zH) : zXf zT znl d 214 4 lo (.int x :: st) h = if x = nI 0 then zXf zT znl d 214 7 lo st h else zXf zT znl d 214 9 lo st h := (zXq (op := oNe0 9 7) zT_214 rfl).trans (zB_if _ _)
theorem q214_7 (d : Nat) (lo : zL) (st : List Value) (h : zH) : zXf zT znl d 214 7 lo st h = zXf zT znl d 214 8 lo (.int ((-1)) :: st) h := (zXq (op := oPush (-1) 8) zT_214 rfl).trans rfl
theorem q214_8 (d : Nat) (lo : zL) (x : Int32) (h : zH) : zXf zT znl d 214 8 lo [.int x] h = some (some (.int x), h) := (zXq (op := oIret) zT_214 rfl).trans rfl
theorem q214_9 (d : Nat) (a0 : Value) (a1 : Value) (x : Int32) (l : zL) (st : List Value) (h : zH) : zXf zT znl d 214 9 (a0 :: a1 :: .int x :: l) st h = zXf zT znl d 214 10 (a0 :: a1 :: .int x :: l) (.int x :: st) h := (zXq (op := oIl 2 10) zT_214 rfl).trans rfl
theorem q214_10 (d : Nat) (lo : zL) (st : List Value) (h : zH) : zXf zT znl d 214 10 lo st h = zXf zT znl d 214 11 lo (.int (nI 0) :: st) h := (zXq (op := oPush 0 11) zT_214 rfl).trans rfl
theorem q214_11 (d : Nat) (lo : zL) (x0 x1 : Value) (h : zH) : zXf zT znl d 214 11 lo [x1, x0] h = (zCf zT znl d 205 [x0, x1] h).bind fun o => zXf zT znl d 214 14 lo (o.1.toList ++ []) o.2 := (zXq (op := oC2 98 205 14) zT_214 rfl).trans (zB_cl rfl rfl)
theorem q214_14 (d : Nat) (a0 : Value) (a1 : Value) (a2 : Value) (x : Int32) (l : zL) (st : List Value) (h : zH) (hz : zokv a1 = true) : zXf zT znl d 214 14 (a0 :: a1 :: a2 :: l) (.int x :: st) h = zXf zT znl d 214 15 (a0 :: a1 :: .int x :: l) st h := by
  refine (zXq (op := oIs 2 15) zT_214 rfl).trans ?_
  simp only [oIs, zok, hz, Bool.and_self, if_true, List.set_cons_succ, List.set_cons_zero, zB_go]
theorem q214_15 (d : Nat) (a0 : Value) (a1 : Value) (a2 : Value) (x : Int32) (l : zL) (st : List Value) (h : zH) : zXf zT znl d 214 15 (a0 :: a1 :: a2 :: .int x :: l) st h = zXf zT znl d 214 16 (a0 :: a1 :: a2 :: .int x :: l) (.int x :: st) h := (zXq (op := oIl 3 16) zT_214 rfl).trans rfl
theorem q214_16 (d : Nat) (x : Nat) (l : zL) (st : List Value) (h : zH) : zXf zT znl d 214 16 (.ref x :: l) st h = zXf zT znl d 214 17 (.ref x :: l) (.ref x :: st) h := (zXq (op := oAl 0 17) zT_214 rfl).trans rfl
theorem q214_17 (d : Nat) (lo : zL) (st : List Value) (h : zH) : zXf zT znl d 214 17 lo st h = zB zT znl d 214 (oAlen 18 lo st h) := zXq (op := oAlen 18) zT_214 rfl
theorem q214_18 (d : Nat) (lo : zL) (x0 x1 : Value) (h : zH) : zXf zT znl d 214 18 lo [x1, x0] h = (zCf zT znl d 206 [x0, x1] h).bind fun o => zXf zT znl d 214 21 lo (o.1.toList ++ []) o.2 := (zXq (op := oC2 98 206 21) zT_214 rfl).trans (zB_cl rfl rfl)
theorem q214_21 (d : Nat) (a0 : Value) (a1 : Value) (a2 : Value) (a3 : Value) (x : Int32) (l : zL) (st : List Value) (h : zH) (hz : zokv a2 = true) : zXf zT znl d 214 21 (a0 :: a1 :: a2 :: a3 :: l) (.int x :: st) h = zXf zT znl d 214 22 (a0 :: a1 :: a2 :: .int x :: l) st h := by
  refine (zXq (op := oIs 3 22) zT_214 rfl).trans ?_
  simp only [oIs, zok, hz, Bool.and_self, if_true, List.set_cons_succ, List.set_cons_zero, zB_go]
theorem q214_22 (d : Nat) (a0 : Value) (a1 : Value) (x : Int32) (l : zL) (st : List Value) (h : zH) : zXf zT znl d 214 22 (a0 :: a1 :: .int x :: l) st h = zXf zT znl d 214 23 (a0 :: a1 :: .int x :: l) (.int x :: st) h := (zXq (op := oIl 2 23) zT_214 rfl).trans rfl
theorem q214_23 (d : Nat) (a0 : Value) (a1 : Value) (a2 : Value) (x : Int32) (l : zL) (st : List Value) (h : zH) : zXf zT znl d 214 23 (a0 :: a1 :: a2 :: .int x :: l) st h = zXf zT znl d 214 24 (a0 :: a1 :: a2 :: .int x :: l) (.int x :: st) h := (zXq (op := oIl 3 24) zT_214 rfl).trans rfl
theorem q214_24 (d : Nat) (lo : zL) (x y : Int32) (st : List Value) (h : zH) : zXf zT znl d 214 24 lo (.int y :: .int x :: st) h = if x < y then zXf zT znl d 214 29 lo st h else zXf zT znl d 214 27 lo st h := (zXq (op := oCLt 29 27) zT_214 rfl).trans (zB_if _ _)
theorem q214_27 (d : Nat) (lo : zL) (st : List Value) (h : zH) : zXf zT znl d 214 27 lo st h = zXf zT znl d 214 28 lo (.int ((-1)) :: st) h := (zXq (op := oPush (-1) 28) zT_214 rfl).trans rfl
theorem q214_28 (d : Nat) (lo : zL) (x : Int32) (h : zH) : zXf zT znl d 214 28 lo [.int x] h = some (some (.int x), h) := (zXq (op := oIret) zT_214 rfl).trans rfl
theorem q214_29 (d : Nat) (x : Nat) (l : zL) (st : List Value) (h : zH) : zXf zT znl d 214 29 (.ref x :: l) st h = zXf zT znl d 214 30 (.ref x :: l) (.ref x :: st) h := (zXq (op := oAl 0 30) zT_214 rfl).trans rfl
theorem q214_30 (d : Nat) (a0 : Value) (x : Int32) (l : zL) (st : List Value) (h : zH) : zXf zT znl d 214 30 (a0 :: .int x :: l) st h = zXf zT znl d 214 31 (a0 :: .int x :: l) (.int x :: st) h := (zXq (op := oIl 1 31) zT_214 rfl).trans rfl
theorem q214_31 (d : Nat) (a0 : Value) (a1 : Value) (x : Int32) (l : zL) (st : List Value) (h : zH) : zXf zT znl d 214 31 (a0 :: a1 :: .int x :: l) st h = zXf zT znl d 214 32 (a0 :: a1 :: .int x :: l) (.int x :: st) h := (zXq (op := oIl 2 32) zT_214 rfl).trans rfl
theorem q214_32 (d : Nat) (a0 : Value) (a1 : Value) (a2 : Value) (x : Int32) (l : zL) (st : List Value) (h : zH) : zXf zT znl d 214 32 (a0 :: a1 :: a2 :: .int x :: l) st h = zXf zT znl d 214 33 (a0 :: a1 :: a2 :: .int x :: l) (.int x :: st) h := (zXq (op := oIl 3 33) zT_214 rfl).trans rfl
theorem q214_33 (d : Nat) (lo : zL) (x0 x1 x2 x3 : Value) (h : zH) : zXf zT znl d 214 33 lo [x3, x2, x1, x0] h = (zCf zT znl d 213 [x0, x1, x2, x3] h).bind fun o => zXf zT znl d 214 36 lo (o.1.toList ++ []) o.2 := (zXq (op := oC4 98 213 36) zT_214 rfl).trans (zB_cl rfl rfl)
theorem q214_36 (d : Nat) (lo : zL) (x : Int32) (h : zH) : zXf zT znl d 214 36 lo [.int x] h = some (some (.int x), h) := (zXq (op := oIret) zT_214 rfl).trans rfl
