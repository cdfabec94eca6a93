/-! ===== the law's acts and its loop ===== -/
theorem sald {L i : Nat} {xs : Nat → Int32} {h : zH} (hX : zX L xs h) (hi : i < L) {nx : Nat} {lo : zL} {st : List Value} : oSald nx lo (.int (nI i) :: .ref 313 :: st) h = zgo nx lo (.int (xs i) :: st) h := by
  obtain ⟨x1, x2, x3⟩ := hX
  have c : (h 400 0).toNatClampNeg = L := by rw [x2]; exact nI_clamp (by omega)
  have ti := nI_toInt (n := i) (by omega)
  have tc := nI_clamp (n := i) (by omega)
  show (if 313 = 313 ∧ 0 ≤ (nI i).toInt ∧ (nI i).toInt < ((h 400 0).toNatClampNeg : Int) then zgo nx lo (.int (h 313 (nI i).toNatClampNeg) :: st) h else none) = _
  rw [if_pos ⟨rfl, by rw [ti]; omega, by rw [ti, c]; omega⟩, tc, x1 i hi]
theorem slen {L : Nat} {xs : Nat → Int32} {h : zH} (hX : zX L xs h) {nx : Nat} {lo : zL} {st : List Value} : oSlen nx lo (.ref 313 :: st) h = zgo nx lo (.int (nI L) :: st) h := by
  show (if 313 = 313 then zgo nx lo (.int (h 400 0) :: st) h else none) = _
  rw [if_pos rfl, hX.2.1]
  rfl
theorem nI_sub6 {L i : Nat} (hL : L ≤ 3072) (hi : i ≤ 4000) : (nI L - nI 6 < nI i) ↔ L < i + 6 := by
  rw [Int32.lt_iff_toInt_lt, nI_toInt (show i < 2 ^ 31 by omega)]
  have e : (nI L - nI 6).toInt = (L : Int) - 6 := by
    rw [Int32.toInt_sub, nI_toInt (show L < 2 ^ 31 by omega), nI_toInt (show 6 < 2 ^ 31 by decide)]
    exact Int.bmod_eq_of_le (by omega) (by omega)
  rw [e]
  omega
theorem lwc_0 {d L i : Nat} {xs : Nat → Int32} {P : zU → Prop} {h : zH} (hX : zX L xs h) (R : Rel h) (hi : i + 6 ≤ L) (nxt : ∀ h2, Rel h2 → zX L xs h2 → yR (d + 60) L xs P 18 [.ref 313, .ref 0, .ref 91, .int (nI (i + 6))] [] h2) : yR (d + 60) L xs P 204 [.ref 313, .ref 0, .ref 91, .int (nI i)] [] h := by
  obtain ⟨x, h1, h2, k1, k2, R2⟩ := o7 d R (xs (i + 1)) (xs (i + 2))
  simp only [y215_204, y215_205, y215_206, y215_207, y215_208, y215_209, y215_210, y215_211, y215_212, y215_213, y215_214, y215_215, sald hX (show i + 1 < L by omega), sald hX (show i + 2 < L by omega), nI_add, rc_L, rc_M, k1, Option.toList_some, Option.toList_none, List.cons_append, List.nil_append, yB_go, yB_end, zokv_i, zokv_r, zokv_n, eq_self]
  refine ⟨_, _, rfl, fun hX1 => ?_⟩
  simp only [y215_218, y215_219, y215_220, y215_221, y215_222, y215_223, y215_224, y215_225, y215_226, y215_227, y215_228, y215_229, sald hX1 (show i + 1 < L by omega), sald hX1 (show i + 2 < L by omega), nI_add, rc_L, rc_M, k2, Option.toList_some, Option.toList_none, List.cons_append, List.nil_append, yB_go, yB_end, zokv_i, zokv_r, zokv_n, eq_self]
  refine ⟨_, _, rfl, fun hX2 => ?_⟩
  simp only [y215_232, y215_1351, y215_1354, nI_add, if_true, Option.toList_some, Option.toList_none, List.cons_append, List.nil_append, yB_go, yB_end, zokv_i, zokv_r, zokv_n, eq_self]
  exact nxt h2 R2 hX2
theorem lwc_1 {d L i : Nat} {xs : Nat → Int32} {P : zU → Prop} {h : zH} (hX : zX L xs h) (R : Rel h) (hi : i + 6 ≤ L) (nxt : ∀ h2, Rel h2 → zX L xs h2 → yR (d + 60) L xs P 18 [.ref 313, .ref 0, .ref 91, .int (nI (i + 6))] [] h2) : yR (d + 60) L xs P 237 [.ref 313, .ref 0, .ref 91, .int (nI i)] [] h := by
  obtain ⟨x, h1, h2, k1, k2, R2⟩ := o8 d R (xs (i + 1))
  simp only [y215_237, y215_238, y215_239, y215_240, y215_241, y215_242, y215_243, sald hX (show i + 1 < L by omega), nI_add, rc_L, rc_M, k1, Option.toList_some, Option.toList_none, List.cons_append, List.nil_append, yB_go, yB_end, zokv_i, zokv_r, zokv_n, eq_self]
  refine ⟨_, _, rfl, fun hX1 => ?_⟩
  simp only [y215_246, y215_247, y215_248, y215_249, y215_250, y215_251, y215_252, sald hX1 (show i + 1 < L by omega), nI_add, rc_L, rc_M, k2, Option.toList_some, Option.toList_none, List.cons_append, List.nil_append, yB_go, yB_end, zokv_i, zokv_r, zokv_n, eq_self]
  refine ⟨_, _, rfl, fun hX2 => ?_⟩
  simp only [y215_255, y215_1351, y215_1354, nI_add, if_true, Option.toList_some, Option.toList_none, List.cons_append, List.nil_append, yB_go, yB_end, zokv_i, zokv_r, zokv_n, eq_self]
  exact nxt h2 R2 hX2
theorem lwc_2 {d L i : Nat} {xs : Nat → Int32} {P : zU → Prop} {h : zH} (hX : zX L xs h) (R : Rel h) (hi : i + 6 ≤ L) (nxt : ∀ h2, Rel h2 → zX L xs h2 → yR (d + 60) L xs P 18 [.ref 313, .ref 0, .ref 91, .int (nI (i + 6))] [] h2) : yR (d + 60) L xs P 260 [.ref 313, .ref 0, .ref 91, .int (nI i)] [] h := by
  obtain ⟨x, h1, h2, k1, k2, R2⟩ := o9 d R (xs (i + 1)) (xs (i + 2))
  simp only [y215_260, y215_261, y215_262, y215_263, y215_264, y215_265, y215_266, y215_267, y215_268, y215_269, y215_270, y215_271, sald hX (show i + 1 < L by omega), sald hX (show i + 2 < L by omega), nI_add, rc_L, rc_M, k1, Option.toList_some, Option.toList_none, List.cons_append, List.nil_append, yB_go, yB_end, zokv_i, zokv_r, zokv_n, eq_self]
  refine ⟨_, _, rfl, fun hX1 => ?_⟩
  simp only [y215_274, y215_275, y215_276, y215_277, y215_278, y215_279, y215_280, y215_281, y215_282, y215_283, y215_284, y215_285, sald hX1 (show i + 1 < L by omega), sald hX1 (show i + 2 < L by omega), nI_add, rc_L, rc_M, k2, Option.toList_some, Option.toList_none, List.cons_append, List.nil_append, yB_go, yB_end, zokv_i, zokv_r, zokv_n, eq_self]
  refine ⟨_, _, rfl, fun hX2 => ?_⟩
  simp only [y215_288, y215_1351, y215_1354, nI_add, if_true, Option.toList_some, Option.toList_none, List.cons_append, List.nil_append, yB_go, yB_end, zokv_i, zokv_r, zokv_n, eq_self]
  exact nxt h2 R2 hX2
theorem lwc_3 {d L i : Nat} {xs : Nat → Int32} {P : zU → Prop} {h : zH} (hX : zX L xs h) (R : Rel h) (hi : i + 6 ≤ L) (nxt : ∀ h2, Rel h2 → zX L xs h2 → yR (d + 60) L xs P 18 [.ref 313, .ref 0, .ref 91, .int (nI (i + 6))] [] h2) : yR (d + 60) L xs P 293 [.ref 313, .ref 0, .ref 91, .int (nI i)] [] h := by
  obtain ⟨x, h1, h2, k1, k2, R2⟩ := o10 d R (xs (i + 1)) (xs (i + 2))
  simp only [y215_293, y215_294, y215_295, y215_296, y215_297, y215_298, y215_299, y215_300, y215_301, y215_302, y215_303, y215_304, sald hX (show i + 1 < L by omega), sald hX (show i + 2 < L by omega), nI_add, rc_L, rc_M, k1, Option.toList_some, Option.toList_none, List.cons_append, List.nil_append, yB_go, yB_end, zokv_i, zokv_r, zokv_n, eq_self]
  refine ⟨_, _, rfl, fun hX1 => ?_⟩
  simp only [y215_307, y215_308, y215_309, y215_310, y215_311, y215_312, y215_313, y215_314, y215_315, y215_316, y215_317, y215_318, sald hX1 (show i + 1 < L by omega), sald hX1 (show i + 2 < L by omega), nI_add, rc_L, rc_M, k2, Option.toList_some, Option.toList_none, List.cons_append, List.nil_append, yB_go, yB_end, zokv_i, zokv_r, zokv_n, eq_self]
  refine ⟨_, _, rfl, fun hX2 => ?_⟩
  simp only [y215_321, y215_1351, y215_1354, nI_add, if_true, Option.toList_some, Option.toList_none, List.cons_append, List.nil_append, yB_go, yB_end, zokv_i, zokv_r, zokv_n, eq_self]
  exact nxt h2 R2 hX2
theorem lwc_4 {d L i : Nat} {xs : Nat → Int32} {P : zU → Prop} {h : zH} (hX : zX L xs h) (R : Rel h) (hi : i + 6 ≤ L) (nxt : ∀ h2, Rel h2 → zX L xs h2 → yR (d + 60) L xs P 18 [.ref 313, .ref 0, .ref 91, .int (nI (i + 6))] [] h2) : yR (d + 60) L xs P 326 [.ref 313, .ref 0, .ref 91, .int (nI i)] [] h := by
  obtain ⟨x, h1, h2, k1, k2, R2⟩ := o11 d R (xs (i + 1)) (xs (i + 2)) (xs (i + 3))
  simp only [y215_326, y215_327, y215_328, y215_329, y215_330, y215_331, y215_332, y215_333, y215_334, y215_335, y215_336, y215_337, y215_338, y215_339, y215_340, y215_341, y215_342, sald hX (show i + 1 < L by omega), sald hX (show i + 2 < L by omega), sald hX (show i + 3 < L by omega), nI_add, rc_L, rc_M, k1, Option.toList_some, Option.toList_none, List.cons_append, List.nil_append, yB_go, yB_end, zokv_i, zokv_r, zokv_n, eq_self]
  refine ⟨_, _, rfl, fun hX1 => ?_⟩
  simp only [y215_345, y215_346, y215_347, y215_348, y215_349, y215_350, y215_351, y215_352, y215_353, y215_354, y215_355, y215_356, y215_357, y215_358, y215_359, y215_360, y215_361, sald hX1 (show i + 1 < L by omega), sald hX1 (show i + 2 < L by omega), sald hX1 (show i + 3 < L by omega), nI_add, rc_L, rc_M, k2, Option.toList_some, Option.toList_none, List.cons_append, List.nil_append, yB_go, yB_end, zokv_i, zokv_r, zokv_n, eq_self]
  refine ⟨_, _, rfl, fun hX2 => ?_⟩
  simp only [y215_364, y215_1351, y215_1354, nI_add, if_true, Option.toList_some, Option.toList_none, List.cons_append, List.nil_append, yB_go, yB_end, zokv_i, zokv_r, zokv_n, eq_self]
  exact nxt h2 R2 hX2
theorem lwc_5 {d L i : Nat} {xs : Nat → Int32} {P : zU → Prop} {h : zH} (hX : zX L xs h) (R : Rel h) (hi : i + 6 ≤ L) (nxt : ∀ h2, Rel h2 → zX L xs h2 → yR (d + 60) L xs P 18 [.ref 313, .ref 0, .ref 91, .int (nI (i + 6))] [] h2) : yR (d + 60) L xs P 369 [.ref 313, .ref 0, .ref 91, .int (nI i)] [] h := by
  obtain ⟨x, h1, h2, k1, k2, R2⟩ := o13 d R (xs (i + 1)) (xs (i + 2))
  simp only [y215_369, y215_370, y215_371, y215_372, y215_373, y215_374, y215_375, y215_376, y215_377, y215_378, y215_379, y215_380, sald hX (show i + 1 < L by omega), sald hX (show i + 2 < L by omega), nI_add, rc_L, rc_M, k1, Option.toList_some, Option.toList_none, List.cons_append, List.nil_append, yB_go, yB_end, zokv_i, zokv_r, zokv_n, eq_self]
  refine ⟨_, _, rfl, fun hX1 => ?_⟩
  simp only [y215_383, y215_384, y215_385, y215_386, y215_387, y215_388, y215_389, y215_390, y215_391, y215_392, y215_393, y215_394, sald hX1 (show i + 1 < L by omega), sald hX1 (show i + 2 < L by omega), nI_add, rc_L, rc_M, k2, Option.toList_some, Option.toList_none, List.cons_append, List.nil_append, yB_go, yB_end, zokv_i, zokv_r, zokv_n, eq_self]
  refine ⟨_, _, rfl, fun hX2 => ?_⟩
  simp only [y215_397, y215_1351, y215_1354, nI_add, if_true, Option.toList_some, Option.toList_none, List.cons_append, List.nil_append, yB_go, yB_end, zokv_i, zokv_r, zokv_n, eq_self]
  exact nxt h2 R2 hX2
theorem lwc_6 {d L i : Nat} {xs : Nat → Int32} {P : zU → Prop} {h : zH} (hX : zX L xs h) (R : Rel h) (hi : i + 6 ≤ L) (nxt : ∀ h2, Rel h2 → zX L xs h2 → yR (d + 60) L xs P 18 [.ref 313, .ref 0, .ref 91, .int (nI (i + 6))] [] h2) : yR (d + 60) L xs P 402 [.ref 313, .ref 0, .ref 91, .int (nI i)] [] h := by
  obtain ⟨x, h1, h2, k1, k2, R2⟩ := o15 d R (xs (i + 1)) (xs (i + 2))
  simp only [y215_402, y215_403, y215_404, y215_405, y215_406, y215_407, y215_408, y215_409, y215_410, y215_411, y215_412, y215_413, sald hX (show i + 1 < L by omega), sald hX (show i + 2 < L by omega), nI_add, rc_L, rc_M, k1, Option.toList_some, Option.toList_none, List.cons_append, List.nil_append, yB_go, yB_end, zokv_i, zokv_r, zokv_n, eq_self]
  refine ⟨_, _, rfl, fun hX1 => ?_⟩
  simp only [y215_416, y215_417, y215_418, y215_419, y215_420, y215_421, y215_422, y215_423, y215_424, y215_425, y215_426, y215_427, sald hX1 (show i + 1 < L by omega), sald hX1 (show i + 2 < L by omega), nI_add, rc_L, rc_M, k2, Option.toList_some, Option.toList_none, List.cons_append, List.nil_append, yB_go, yB_end, zokv_i, zokv_r, zokv_n, eq_self]
  refine ⟨_, _, rfl, fun hX2 => ?_⟩
  simp only [y215_430, y215_1351, y215_1354, nI_add, if_true, Option.toList_some, Option.toList_none, List.cons_append, List.nil_append, yB_go, yB_end, zokv_i, zokv_r, zokv_n, eq_self]
  exact nxt h2 R2 hX2
theorem lwc_7 {d L i : Nat} {xs : Nat → Int32} {P : zU → Prop} {h : zH} (hX : zX L xs h) (R : Rel h) (hi : i + 6 ≤ L) (nxt : ∀ h2, Rel h2 → zX L xs h2 → yR (d + 60) L xs P 18 [.ref 313, .ref 0, .ref 91, .int (nI (i + 6))] [] h2) : yR (d + 60) L xs P 435 [.ref 313, .ref 0, .ref 91, .int (nI i)] [] h := by
  obtain ⟨x, h1, h2, k1, k2, R2⟩ := o16 d R (xs (i + 1)) (xs (i + 2)) (xs (i + 3))
  simp only [y215_435, y215_436, y215_437, y215_438, y215_439, y215_440, y215_441, y215_442, y215_443, y215_444, y215_445, y215_446, y215_447, y215_448, y215_449, y215_450, y215_451, sald hX (show i + 1 < L by omega), sald hX (show i + 2 < L by omega), sald hX (show i + 3 < L by omega), nI_add, rc_L, rc_M, k1, Option.toList_some, Option.toList_none, List.cons_append, List.nil_append, yB_go, yB_end, zokv_i, zokv_r, zokv_n, eq_self]
  refine ⟨_, _, rfl, fun hX1 => ?_⟩
  simp only [y215_454, y215_455, y215_456, y215_457, y215_458, y215_459, y215_460, y215_461, y215_462, y215_463, y215_464, y215_465, y215_466, y215_467, y215_468, y215_469, y215_470, sald hX1 (show i + 1 < L by omega), sald hX1 (show i + 2 < L by omega), sald hX1 (show i + 3 < L by omega), nI_add, rc_L, rc_M, k2, Option.toList_some, Option.toList_none, List.cons_append, List.nil_append, yB_go, yB_end, zokv_i, zokv_r, zokv_n, eq_self]
  refine ⟨_, _, rfl, fun hX2 => ?_⟩
  simp only [y215_473, y215_1351, y215_1354, nI_add, if_true, Option.toList_some, Option.toList_none, List.cons_append, List.nil_append, yB_go, yB_end, zokv_i, zokv_r, zokv_n, eq_self]
  exact nxt h2 R2 hX2
theorem lwc_8 {d L i : Nat} {xs : Nat → Int32} {P : zU → Prop} {h : zH} (hX : zX L xs h) (R : Rel h) (hi : i + 6 ≤ L) (nxt : ∀ h2, Rel h2 → zX L xs h2 → yR (d + 60) L xs P 18 [.ref 313, .ref 0, .ref 91, .int (nI (i + 6))] [] h2) : yR (d + 60) L xs P 478 [.ref 313, .ref 0, .ref 91, .int (nI i)] [] h := by
  obtain ⟨x, h1, h2, k1, k2, R2⟩ := o17 d R (xs (i + 1)) (xs (i + 2))
  simp only [y215_478, y215_479, y215_480, y215_481, y215_482, y215_483, y215_484, y215_485, y215_486, y215_487, y215_488, y215_489, sald hX (show i + 1 < L by omega), sald hX (show i + 2 < L by omega), nI_add, rc_L, rc_M, k1, Option.toList_some, Option.toList_none, List.cons_append, List.nil_append, yB_go, yB_end, zokv_i, zokv_r, zokv_n, eq_self]
  refine ⟨_, _, rfl, fun hX1 => ?_⟩
  simp only [y215_492, y215_493, y215_494, y215_495, y215_496, y215_497, y215_498, y215_499, y215_500, y215_501, y215_502, y215_503, sald hX1 (show i + 1 < L by omega), sald hX1 (show i + 2 < L by omega), nI_add, rc_L, rc_M, k2, Option.toList_some, Option.toList_none, List.cons_append, List.nil_append, yB_go, yB_end, zokv_i, zokv_r, zokv_n, eq_self]
  refine ⟨_, _, rfl, fun hX2 => ?_⟩
  simp only [y215_506, y215_1351, y215_1354, nI_add, if_true, Option.toList_some, Option.toList_none, List.cons_append, List.nil_append, yB_go, yB_end, zokv_i, zokv_r, zokv_n, eq_self]
  exact nxt h2 R2 hX2
theorem lwc_9 {d L i : Nat} {xs : Nat → Int32} {P : zU → Prop} {h : zH} (hX : zX L xs h) (R : Rel h) (hi : i + 6 ≤ L) (nxt : ∀ h2, Rel h2 → zX L xs h2 → yR (d + 60) L xs P 18 [.ref 313, .ref 0, .ref 91, .int (nI (i + 6))] [] h2) : yR (d + 60) L xs P 511 [.ref 313, .ref 0, .ref 91, .int (nI i)] [] h := by
  obtain ⟨x, h1, h2, k1, k2, R2⟩ := o18 d R ((xs (i + 1)).toInt64 <<< ((nI 32).toInt64 &&& 63) ||| (xs (i + 2)).toInt64 &&& 4294967295) (xs (i + 3))
  simp only [y215_511, y215_512, y215_513, y215_514, y215_515, y215_516, y215_517, y215_518, y215_520, y215_521, y215_522, y215_523, y215_524, y215_525, y215_526, y215_527, y215_530, y215_531, y215_532, y215_533, y215_534, y215_535, y215_536, y215_537, sald hX (show i + 1 < L by omega), sald hX (show i + 2 < L by omega), sald hX (show i + 3 < L by omega), nI_add, rc_L, rc_M, k1, Option.toList_some, Option.toList_none, List.cons_append, List.nil_append, yB_go, yB_end, zokv_i, zokv_r, zokv_n, eq_self]
  refine ⟨_, _, rfl, fun hX1 => ?_⟩
  simp only [y215_540, y215_541, y215_542, y215_543, y215_544, y215_545, y215_546, y215_547, y215_549, y215_550, y215_551, y215_552, y215_553, y215_554, y215_555, y215_556, y215_559, y215_560, y215_561, y215_562, y215_563, y215_564, y215_565, y215_566, sald hX1 (show i + 1 < L by omega), sald hX1 (show i + 2 < L by omega), sald hX1 (show i + 3 < L by omega), nI_add, rc_L, rc_M, k2, Option.toList_some, Option.toList_none, List.cons_append, List.nil_append, yB_go, yB_end, zokv_i, zokv_r, zokv_n, eq_self]
  refine ⟨_, _, rfl, fun hX2 => ?_⟩
  simp only [y215_569, y215_1351, y215_1354, nI_add, if_true, Option.toList_some, Option.toList_none, List.cons_append, List.nil_append, yB_go, yB_end, zokv_i, zokv_r, zokv_n, eq_self]
  exact nxt h2 R2 hX2
theorem lwc_10 {d L i : Nat} {xs : Nat → Int32} {P : zU → Prop} {h : zH} (hX : zX L xs h) (R : Rel h) (hi : i + 6 ≤ L) (nxt : ∀ h2, Rel h2 → zX L xs h2 → yR (d + 60) L xs P 18 [.ref 313, .ref 0, .ref 91, .int (nI (i + 6))] [] h2) : yR (d + 60) L xs P 574 [.ref 313, .ref 0, .ref 91, .int (nI i)] [] h := by
  obtain ⟨x, h1, h2, k1, k2, R2⟩ := o19 d R (xs (i + 1))
  simp only [y215_574, y215_575, y215_576, y215_577, y215_578, y215_579, y215_580, sald hX (show i + 1 < L by omega), nI_add, rc_L, rc_M, k1, Option.toList_some, Option.toList_none, List.cons_append, List.nil_append, yB_go, yB_end, zokv_i, zokv_r, zokv_n, eq_self]
  refine ⟨_, _, rfl, fun hX1 => ?_⟩
  simp only [y215_583, y215_584, y215_585, y215_586, y215_587, y215_588, y215_589, sald hX1 (show i + 1 < L by omega), nI_add, rc_L, rc_M, k2, Option.toList_some, Option.toList_none, List.cons_append, List.nil_append, yB_go, yB_end, zokv_i, zokv_r, zokv_n, eq_self]
  refine ⟨_, _, rfl, fun hX2 => ?_⟩
  simp only [y215_592, y215_1351, y215_1354, nI_add, if_true, Option.toList_some, Option.toList_none, List.cons_append, List.nil_append, yB_go, yB_end, zokv_i, zokv_r, zokv_n, eq_self]
  exact nxt h2 R2 hX2
theorem lwc_11 {d L i : Nat} {xs : Nat → Int32} {P : zU → Prop} {h : zH} (hX : zX L xs h) (R : Rel h) (hi : i + 6 ≤ L) (nxt : ∀ h2, Rel h2 → zX L xs h2 → yR (d + 60) L xs P 18 [.ref 313, .ref 0, .ref 91, .int (nI (i + 6))] [] h2) : yR (d + 60) L xs P 597 [.ref 313, .ref 0, .ref 91, .int (nI i)] [] h := by
  obtain ⟨x, h1, h2, k1, k2, R2⟩ := o20 d R (xs (i + 1))
  simp only [y215_597, y215_598, y215_599, y215_600, y215_601, y215_602, y215_603, sald hX (show i + 1 < L by omega), nI_add, rc_L, rc_M, k1, Option.toList_some, Option.toList_none, List.cons_append, List.nil_append, yB_go, yB_end, zokv_i, zokv_r, zokv_n, eq_self]
  refine ⟨_, _, rfl, fun hX1 => ?_⟩
  simp only [y215_606, y215_607, y215_608, y215_609, y215_610, y215_611, y215_612, sald hX1 (show i + 1 < L by omega), nI_add, rc_L, rc_M, k2, Option.toList_some, Option.toList_none, List.cons_append, List.nil_append, yB_go, yB_end, zokv_i, zokv_r, zokv_n, eq_self]
  refine ⟨_, _, rfl, fun hX2 => ?_⟩
  simp only [y215_615, y215_1351, y215_1354, nI_add, if_true, Option.toList_some, Option.toList_none, List.cons_append, List.nil_append, yB_go, yB_end, zokv_i, zokv_r, zokv_n, eq_self]
  exact nxt h2 R2 hX2
theorem lwc_12 {d L i : Nat} {xs : Nat → Int32} {P : zU → Prop} {h : zH} (hX : zX L xs h) (R : Rel h) (hi : i + 6 ≤ L) (nxt : ∀ h2, Rel h2 → zX L xs h2 → yR (d + 60) L xs P 18 [.ref 313, .ref 0, .ref 91, .int (nI (i + 6))] [] h2) : yR (d + 60) L xs P 620 [.ref 313, .ref 0, .ref 91, .int (nI i)] [] h := by
  obtain ⟨x, h1, h2, k1, k2, R2⟩ := o21 d R (xs (i + 1))
  simp only [y215_620, y215_621, y215_622, y215_623, y215_624, y215_625, y215_626, sald hX (show i + 1 < L by omega), nI_add, rc_L, rc_M, k1, Option.toList_some, Option.toList_none, List.cons_append, List.nil_append, yB_go, yB_end, zokv_i, zokv_r, zokv_n, eq_self]
  refine ⟨_, _, rfl, fun hX1 => ?_⟩
  simp only [y215_629, y215_630, y215_631, y215_632, y215_633, y215_634, y215_635, sald hX1 (show i + 1 < L by omega), nI_add, rc_L, rc_M, k2, Option.toList_some, Option.toList_none, List.cons_append, List.nil_append, yB_go, yB_end, zokv_i, zokv_r, zokv_n, eq_self]
  refine ⟨_, _, rfl, fun hX2 => ?_⟩
  simp only [y215_638, y215_1351, y215_1354, nI_add, if_true, Option.toList_some, Option.toList_none, List.cons_append, List.nil_append, yB_go, yB_end, zokv_i, zokv_r, zokv_n, eq_self]
  exact nxt h2 R2 hX2
theorem lwc_13 {d L i : Nat} {xs : Nat → Int32} {P : zU → Prop} {h : zH} (hX : zX L xs h) (R : Rel h) (hi : i + 6 ≤ L) (nxt : ∀ h2, Rel h2 → zX L xs h2 → yR (d + 60) L xs P 18 [.ref 313, .ref 0, .ref 91, .int (nI (i + 6))] [] h2) : yR (d + 60) L xs P 643 [.ref 313, .ref 0, .ref 91, .int (nI i)] [] h := by
  obtain ⟨x, h1, h2, k1, k2, R2⟩ := o22 d R (xs (i + 1))
  simp only [y215_643, y215_644, y215_645, y215_646, y215_647, y215_648, y215_649, sald hX (show i + 1 < L by omega), nI_add, rc_L, rc_M, k1, Option.toList_some, Option.toList_none, List.cons_append, List.nil_append, yB_go, yB_end, zokv_i, zokv_r, zokv_n, eq_self]
  refine ⟨_, _, rfl, fun hX1 => ?_⟩
  simp only [y215_652, y215_653, y215_654, y215_655, y215_656, y215_657, y215_658, sald hX1 (show i + 1 < L by omega), nI_add, rc_L, rc_M, k2, Option.toList_some, Option.toList_none, List.cons_append, List.nil_append, yB_go, yB_end, zokv_i, zokv_r, zokv_n, eq_self]
  refine ⟨_, _, rfl, fun hX2 => ?_⟩
  simp only [y215_661, y215_1351, y215_1354, nI_add, if_true, Option.toList_some, Option.toList_none, List.cons_append, List.nil_append, yB_go, yB_end, zokv_i, zokv_r, zokv_n, eq_self]
  exact nxt h2 R2 hX2
theorem lwc_14 {d L i : Nat} {xs : Nat → Int32} {P : zU → Prop} {h : zH} (hX : zX L xs h) (R : Rel h) (hi : i + 6 ≤ L) (nxt : ∀ h2, Rel h2 → zX L xs h2 → yR (d + 60) L xs P 18 [.ref 313, .ref 0, .ref 91, .int (nI (i + 6))] [] h2) : yR (d + 60) L xs P 666 [.ref 313, .ref 0, .ref 91, .int (nI i)] [] h := by
  obtain ⟨x, h1, h2, k1, k2, R2⟩ := o23 d R (xs (i + 1))
  simp only [y215_666, y215_667, y215_668, y215_669, y215_670, y215_671, y215_672, sald hX (show i + 1 < L by omega), nI_add, rc_L, rc_M, k1, Option.toList_some, Option.toList_none, List.cons_append, List.nil_append, yB_go, yB_end, zokv_i, zokv_r, zokv_n, eq_self]
  refine ⟨_, _, rfl, fun hX1 => ?_⟩
  simp only [y215_675, y215_676, y215_677, y215_678, y215_679, y215_680, y215_681, sald hX1 (show i + 1 < L by omega), nI_add, rc_L, rc_M, k2, Option.toList_some, Option.toList_none, List.cons_append, List.nil_append, yB_go, yB_end, zokv_i, zokv_r, zokv_n, eq_self]
  refine ⟨_, _, rfl, fun hX2 => ?_⟩
  simp only [y215_684, y215_1351, y215_1354, nI_add, if_true, Option.toList_some, Option.toList_none, List.cons_append, List.nil_append, yB_go, yB_end, zokv_i, zokv_r, zokv_n, eq_self]
  exact nxt h2 R2 hX2
theorem lwc_15 {d L i : Nat} {xs : Nat → Int32} {P : zU → Prop} {h : zH} (hX : zX L xs h) (R : Rel h) (hi : i + 6 ≤ L) (nxt : ∀ h2, Rel h2 → zX L xs h2 → yR (d + 60) L xs P 18 [.ref 313, .ref 0, .ref 91, .int (nI (i + 6))] [] h2) : yR (d + 60) L xs P 689 [.ref 313, .ref 0, .ref 91, .int (nI i)] [] h := by
  obtain ⟨x, h1, h2, k1, k2, R2⟩ := o24 d R
  simp only [y215_689, y215_690, nI_add, rc_L, rc_M, k1, Option.toList_some, Option.toList_none, List.cons_append, List.nil_append, yB_go, yB_end, zokv_i, zokv_r, zokv_n, eq_self]
  refine ⟨_, _, rfl, fun hX1 => ?_⟩
  simp only [y215_693, y215_694, nI_add, rc_L, rc_M, k2, Option.toList_some, Option.toList_none, List.cons_append, List.nil_append, yB_go, yB_end, zokv_i, zokv_r, zokv_n, eq_self]
  refine ⟨_, _, rfl, fun hX2 => ?_⟩
  simp only [y215_697, y215_1351, y215_1354, nI_add, if_true, Option.toList_some, Option.toList_none, List.cons_append, List.nil_append, yB_go, yB_end, zokv_i, zokv_r, zokv_n, eq_self]
  exact nxt h2 R2 hX2
theorem lwc_16 {d L i : Nat} {xs : Nat → Int32} {P : zU → Prop} {h : zH} (hX : zX L xs h) (R : Rel h) (hi : i + 6 ≤ L) (nxt : ∀ h2, Rel h2 → zX L xs h2 → yR (d + 60) L xs P 18 [.ref 313, .ref 0, .ref 91, .int (nI (i + 6))] [] h2) : yR (d + 60) L xs P 702 [.ref 313, .ref 0, .ref 91, .int (nI i)] [] h := by
  obtain ⟨x, h1, h2, k1, k2, R2⟩ := o25 d R (xs (i + 1))
  simp only [y215_702, y215_703, y215_704, y215_705, y215_706, y215_707, y215_708, sald hX (show i + 1 < L by omega), nI_add, rc_L, rc_M, k1, Option.toList_some, Option.toList_none, List.cons_append, List.nil_append, yB_go, yB_end, zokv_i, zokv_r, zokv_n, eq_self]
  refine ⟨_, _, rfl, fun hX1 => ?_⟩
  simp only [y215_711, y215_712, y215_713, y215_714, y215_715, y215_716, y215_717, sald hX1 (show i + 1 < L by omega), nI_add, rc_L, rc_M, k2, Option.toList_some, Option.toList_none, List.cons_append, List.nil_append, yB_go, yB_end, zokv_i, zokv_r, zokv_n, eq_self]
  refine ⟨_, _, rfl, fun hX2 => ?_⟩
  simp only [y215_720, y215_1351, y215_1354, nI_add, if_true, Option.toList_some, Option.toList_none, List.cons_append, List.nil_append, yB_go, yB_end, zokv_i, zokv_r, zokv_n, eq_self]
  exact nxt h2 R2 hX2
theorem lwc_17 {d L i : Nat} {xs : Nat → Int32} {P : zU → Prop} {h : zH} (hX : zX L xs h) (R : Rel h) (hi : i + 6 ≤ L) (nxt : ∀ h2, Rel h2 → zX L xs h2 → yR (d + 60) L xs P 18 [.ref 313, .ref 0, .ref 91, .int (nI (i + 6))] [] h2) : yR (d + 60) L xs P 725 [.ref 313, .ref 0, .ref 91, .int (nI i)] [] h := by
  obtain ⟨x, h1, h2, k1, k2, R2⟩ := o26 d R (xs (i + 1)) (xs (i + 2)) (xs (i + 3))
  simp only [y215_725, y215_726, y215_727, y215_728, y215_729, y215_730, y215_731, y215_732, y215_733, y215_734, y215_735, y215_736, y215_737, y215_738, y215_739, y215_740, y215_741, sald hX (show i + 1 < L by omega), sald hX (show i + 2 < L by omega), sald hX (show i + 3 < L by omega), nI_add, rc_L, rc_M, k1, Option.toList_some, Option.toList_none, List.cons_append, List.nil_append, yB_go, yB_end, zokv_i, zokv_r, zokv_n, eq_self]
  refine ⟨_, _, rfl, fun hX1 => ?_⟩
  simp only [y215_744, y215_745, y215_746, y215_747, y215_748, y215_749, y215_750, y215_751, y215_752, y215_753, y215_754, y215_755, y215_756, y215_757, y215_758, y215_759, y215_760, sald hX1 (show i + 1 < L by omega), sald hX1 (show i + 2 < L by omega), sald hX1 (show i + 3 < L by omega), nI_add, rc_L, rc_M, k2, Option.toList_some, Option.toList_none, List.cons_append, List.nil_append, yB_go, yB_end, zokv_i, zokv_r, zokv_n, eq_self]
  refine ⟨_, _, rfl, fun hX2 => ?_⟩
  simp only [y215_763, y215_1351, y215_1354, nI_add, if_true, Option.toList_some, Option.toList_none, List.cons_append, List.nil_append, yB_go, yB_end, zokv_i, zokv_r, zokv_n, eq_self]
  exact nxt h2 R2 hX2
theorem lwc_18 {d L i : Nat} {xs : Nat → Int32} {P : zU → Prop} {h : zH} (hX : zX L xs h) (R : Rel h) (hi : i + 6 ≤ L) (nxt : ∀ h2, Rel h2 → zX L xs h2 → yR (d + 60) L xs P 18 [.ref 313, .ref 0, .ref 91, .int (nI (i + 6))] [] h2) : yR (d + 60) L xs P 768 [.ref 313, .ref 0, .ref 91, .int (nI i)] [] h := by
  obtain ⟨x, h1, h2, k1, k2, R2⟩ := o27 d R
  simp only [y215_768, y215_769, nI_add, rc_L, rc_M, k1, Option.toList_some, Option.toList_none, List.cons_append, List.nil_append, yB_go, yB_end, zokv_i, zokv_r, zokv_n, eq_self]
  refine ⟨_, _, rfl, fun hX1 => ?_⟩
  simp only [y215_772, y215_773, nI_add, rc_L, rc_M, k2, Option.toList_some, Option.toList_none, List.cons_append, List.nil_append, yB_go, yB_end, zokv_i, zokv_r, zokv_n, eq_self]
  refine ⟨_, _, rfl, fun hX2 => ?_⟩
  simp only [y215_776, y215_1351, y215_1354, nI_add, if_true, Option.toList_some, Option.toList_none, List.cons_append, List.nil_append, yB_go, yB_end, zokv_i, zokv_r, zokv_n, eq_self]
  exact nxt h2 R2 hX2
theorem lwc_19 {d L i : Nat} {xs : Nat → Int32} {P : zU → Prop} {h : zH} (hX : zX L xs h) (R : Rel h) (hi : i + 6 ≤ L) (nxt : ∀ h2, Rel h2 → zX L xs h2 → yR (d + 60) L xs P 18 [.ref 313, .ref 0, .ref 91, .int (nI (i + 6))] [] h2) : yR (d + 60) L xs P 781 [.ref 313, .ref 0, .ref 91, .int (nI i)] [] h := by
  obtain ⟨x, h1, h2, k1, k2, R2⟩ := o28 d R (xs (i + 1)) (xs (i + 2))
  simp only [y215_781, y215_782, y215_783, y215_784, y215_785, y215_786, y215_787, y215_788, y215_789, y215_790, y215_791, y215_792, sald hX (show i + 1 < L by omega), sald hX (show i + 2 < L by omega), nI_add, rc_L, rc_M, k1, Option.toList_some, Option.toList_none, List.cons_append, List.nil_append, yB_go, yB_end, zokv_i, zokv_r, zokv_n, eq_self]
  refine ⟨_, _, rfl, fun hX1 => ?_⟩
  simp only [y215_795, y215_796, y215_797, y215_798, y215_799, y215_800, y215_801, y215_802, y215_803, y215_804, y215_805, y215_806, sald hX1 (show i + 1 < L by omega), sald hX1 (show i + 2 < L by omega), nI_add, rc_L, rc_M, k2, Option.toList_some, Option.toList_none, List.cons_append, List.nil_append, yB_go, yB_end, zokv_i, zokv_r, zokv_n, eq_self]
  refine ⟨_, _, rfl, fun hX2 => ?_⟩
  simp only [y215_809, y215_1351, y215_1354, nI_add, if_true, Option.toList_some, Option.toList_none, List.cons_append, List.nil_append, yB_go, yB_end, zokv_i, zokv_r, zokv_n, eq_self]
  exact nxt h2 R2 hX2
theorem lwc_20 {d L i : Nat} {xs : Nat → Int32} {P : zU → Prop} {h : zH} (hX : zX L xs h) (R : Rel h) (hi : i + 6 ≤ L) (nxt : ∀ h2, Rel h2 → zX L xs h2 → yR (d + 60) L xs P 18 [.ref 313, .ref 0, .ref 91, .int (nI (i + 6))] [] h2) : yR (d + 60) L xs P 814 [.ref 313, .ref 0, .ref 91, .int (nI i)] [] h := by
  obtain ⟨x, h1, h2, k1, k2, R2⟩ := o29 d R (xs (i + 1)) (xs (i + 2))
  simp only [y215_814, y215_815, y215_816, y215_817, y215_818, y215_819, y215_820, y215_821, y215_822, y215_823, y215_824, y215_825, sald hX (show i + 1 < L by omega), sald hX (show i + 2 < L by omega), nI_add, rc_L, rc_M, k1, Option.toList_some, Option.toList_none, List.cons_append, List.nil_append, yB_go, yB_end, zokv_i, zokv_r, zokv_n, eq_self]
  refine ⟨_, _, rfl, fun hX1 => ?_⟩
  simp only [y215_828, y215_829, y215_830, y215_831, y215_832, y215_833, y215_834, y215_835, y215_836, y215_837, y215_838, y215_839, sald hX1 (show i + 1 < L by omega), sald hX1 (show i + 2 < L by omega), nI_add, rc_L, rc_M, k2, Option.toList_some, Option.toList_none, List.cons_append, List.nil_append, yB_go, yB_end, zokv_i, zokv_r, zokv_n, eq_self]
  refine ⟨_, _, rfl, fun hX2 => ?_⟩
  simp only [y215_842, y215_1351, y215_1354, nI_add, if_true, Option.toList_some, Option.toList_none, List.cons_append, List.nil_append, yB_go, yB_end, zokv_i, zokv_r, zokv_n, eq_self]
  exact nxt h2 R2 hX2
theorem lwc_21 {d L i : Nat} {xs : Nat → Int32} {P : zU → Prop} {h : zH} (hX : zX L xs h) (R : Rel h) (hi : i + 6 ≤ L) (nxt : ∀ h2, Rel h2 → zX L xs h2 → yR (d + 60) L xs P 18 [.ref 313, .ref 0, .ref 91, .int (nI (i + 6))] [] h2) : yR (d + 60) L xs P 847 [.ref 313, .ref 0, .ref 91, .int (nI i)] [] h := by
  obtain ⟨x, h1, h2, k1, k2, R2⟩ := o30 d R (xs (i + 1)) (xs (i + 2))
  simp only [y215_847, y215_848, y215_849, y215_850, y215_851, y215_852, y215_853, y215_854, y215_855, y215_856, y215_857, y215_858, sald hX (show i + 1 < L by omega), sald hX (show i + 2 < L by omega), nI_add, rc_L, rc_M, k1, Option.toList_some, Option.toList_none, List.cons_append, List.nil_append, yB_go, yB_end, zokv_i, zokv_r, zokv_n, eq_self]
  refine ⟨_, _, rfl, fun hX1 => ?_⟩
  simp only [y215_861, y215_862, y215_863, y215_864, y215_865, y215_866, y215_867, y215_868, y215_869, y215_870, y215_871, y215_872, sald hX1 (show i + 1 < L by omega), sald hX1 (show i + 2 < L by omega), nI_add, rc_L, rc_M, k2, Option.toList_some, Option.toList_none, List.cons_append, List.nil_append, yB_go, yB_end, zokv_i, zokv_r, zokv_n, eq_self]
  refine ⟨_, _, rfl, fun hX2 => ?_⟩
  simp only [y215_875, y215_1351, y215_1354, nI_add, if_true, Option.toList_some, Option.toList_none, List.cons_append, List.nil_append, yB_go, yB_end, zokv_i, zokv_r, zokv_n, eq_self]
  exact nxt h2 R2 hX2
theorem lwc_22 {d L i : Nat} {xs : Nat → Int32} {P : zU → Prop} {h : zH} (hX : zX L xs h) (R : Rel h) (hi : i + 6 ≤ L) (nxt : ∀ h2, Rel h2 → zX L xs h2 → yR (d + 60) L xs P 18 [.ref 313, .ref 0, .ref 91, .int (nI (i + 6))] [] h2) : yR (d + 60) L xs P 880 [.ref 313, .ref 0, .ref 91, .int (nI i)] [] h := by
  obtain ⟨x, h1, h2, k1, k2, R2⟩ := o31 d R (xs (i + 1))
  simp only [y215_880, y215_881, y215_882, y215_883, y215_884, y215_885, y215_886, sald hX (show i + 1 < L by omega), nI_add, rc_L, rc_M, k1, Option.toList_some, Option.toList_none, List.cons_append, List.nil_append, yB_go, yB_end, zokv_i, zokv_r, zokv_n, eq_self]
  refine ⟨_, _, rfl, fun hX1 => ?_⟩
  simp only [y215_889, y215_890, y215_891, y215_892, y215_893, y215_894, y215_895, sald hX1 (show i + 1 < L by omega), nI_add, rc_L, rc_M, k2, Option.toList_some, Option.toList_none, List.cons_append, List.nil_append, yB_go, yB_end, zokv_i, zokv_r, zokv_n, eq_self]
  refine ⟨_, _, rfl, fun hX2 => ?_⟩
  simp only [y215_898, y215_1351, y215_1354, nI_add, if_true, Option.toList_some, Option.toList_none, List.cons_append, List.nil_append, yB_go, yB_end, zokv_i, zokv_r, zokv_n, eq_self]
  exact nxt h2 R2 hX2
theorem lwc_23 {d L i : Nat} {xs : Nat → Int32} {P : zU → Prop} {h : zH} (hX : zX L xs h) (R : Rel h) (hi : i + 6 ≤ L) (nxt : ∀ h2, Rel h2 → zX L xs h2 → yR (d + 60) L xs P 18 [.ref 313, .ref 0, .ref 91, .int (nI (i + 6))] [] h2) : yR (d + 60) L xs P 903 [.ref 313, .ref 0, .ref 91, .int (nI i)] [] h := by
  obtain ⟨x, h1, h2, k1, k2, R2⟩ := o32 d R (xs (i + 1)) (xs (i + 2))
  simp only [y215_903, y215_904, y215_905, y215_906, y215_907, y215_908, y215_909, y215_910, y215_911, y215_912, y215_913, y215_914, sald hX (show i + 1 < L by omega), sald hX (show i + 2 < L by omega), nI_add, rc_L, rc_M, k1, Option.toList_some, Option.toList_none, List.cons_append, List.nil_append, yB_go, yB_end, zokv_i, zokv_r, zokv_n, eq_self]
  refine ⟨_, _, rfl, fun hX1 => ?_⟩
  simp only [y215_917, y215_918, y215_919, y215_920, y215_921, y215_922, y215_923, y215_924, y215_925, y215_926, y215_927, y215_928, sald hX1 (show i + 1 < L by omega), sald hX1 (show i + 2 < L by omega), nI_add, rc_L, rc_M, k2, Option.toList_some, Option.toList_none, List.cons_append, List.nil_append, yB_go, yB_end, zokv_i, zokv_r, zokv_n, eq_self]
  refine ⟨_, _, rfl, fun hX2 => ?_⟩
  simp only [y215_931, y215_1351, y215_1354, nI_add, if_true, Option.toList_some, Option.toList_none, List.cons_append, List.nil_append, yB_go, yB_end, zokv_i, zokv_r, zokv_n, eq_self]
  exact nxt h2 R2 hX2
theorem lwc_24 {d L i : Nat} {xs : Nat → Int32} {P : zU → Prop} {h : zH} (hX : zX L xs h) (R : Rel h) (hi : i + 6 ≤ L) (nxt : ∀ h2, Rel h2 → zX L xs h2 → yR (d + 60) L xs P 18 [.ref 313, .ref 0, .ref 91, .int (nI (i + 6))] [] h2) : yR (d + 60) L xs P 936 [.ref 313, .ref 0, .ref 91, .int (nI i)] [] h := by
  obtain ⟨x, h1, h2, k1, k2, R2⟩ := o33 d R (xs (i + 1))
  simp only [y215_936, y215_937, y215_938, y215_939, y215_940, y215_941, y215_942, sald hX (show i + 1 < L by omega), nI_add, rc_L, rc_M, k1, Option.toList_some, Option.toList_none, List.cons_append, List.nil_append, yB_go, yB_end, zokv_i, zokv_r, zokv_n, eq_self]
  refine ⟨_, _, rfl, fun hX1 => ?_⟩
  simp only [y215_945, y215_946, y215_947, y215_948, y215_949, y215_950, y215_951, sald hX1 (show i + 1 < L by omega), nI_add, rc_L, rc_M, k2, Option.toList_some, Option.toList_none, List.cons_append, List.nil_append, yB_go, yB_end, zokv_i, zokv_r, zokv_n, eq_self]
  refine ⟨_, _, rfl, fun hX2 => ?_⟩
  simp only [y215_954, y215_1351, y215_1354, nI_add, if_true, Option.toList_some, Option.toList_none, List.cons_append, List.nil_append, yB_go, yB_end, zokv_i, zokv_r, zokv_n, eq_self]
  exact nxt h2 R2 hX2
theorem lwc_25 {d L i : Nat} {xs : Nat → Int32} {P : zU → Prop} {h : zH} (hX : zX L xs h) (R : Rel h) (hi : i + 6 ≤ L) (nxt : ∀ h2, Rel h2 → zX L xs h2 → yR (d + 60) L xs P 18 [.ref 313, .ref 0, .ref 91, .int (nI (i + 6))] [] h2) : yR (d + 60) L xs P 959 [.ref 313, .ref 0, .ref 91, .int (nI i)] [] h := by
  obtain ⟨x, h1, h2, k1, k2, R2⟩ := o34 d R (xs (i + 1))
  simp only [y215_959, y215_960, y215_961, y215_962, y215_963, y215_964, y215_965, sald hX (show i + 1 < L by omega), nI_add, rc_L, rc_M, k1, Option.toList_some, Option.toList_none, List.cons_append, List.nil_append, yB_go, yB_end, zokv_i, zokv_r, zokv_n, eq_self]
  refine ⟨_, _, rfl, fun hX1 => ?_⟩
  simp only [y215_968, y215_969, y215_970, y215_971, y215_972, y215_973, y215_974, sald hX1 (show i + 1 < L by omega), nI_add, rc_L, rc_M, k2, Option.toList_some, Option.toList_none, List.cons_append, List.nil_append, yB_go, yB_end, zokv_i, zokv_r, zokv_n, eq_self]
  refine ⟨_, _, rfl, fun hX2 => ?_⟩
  simp only [y215_977, y215_1351, y215_1354, nI_add, if_true, Option.toList_some, Option.toList_none, List.cons_append, List.nil_append, yB_go, yB_end, zokv_i, zokv_r, zokv_n, eq_self]
  exact nxt h2 R2 hX2
theorem lwc_26 {d L i : Nat} {xs : Nat → Int32} {P : zU → Prop} {h : zH} (hX : zX L xs h) (R : Rel h) (hi : i + 6 ≤ L) (nxt : ∀ h2, Rel h2 → zX L xs h2 → yR (d + 60) L xs P 18 [.ref 313, .ref 0, .ref 91, .int (nI (i + 6))] [] h2) : yR (d + 60) L xs P 982 [.ref 313, .ref 0, .ref 91, .int (nI i)] [] h := by
  obtain ⟨x, h1, h2, k1, k2, R2⟩ := o35 d R (xs (i + 1)) (xs (i + 2)) (xs (i + 3))
  simp only [y215_982, y215_983, y215_984, y215_985, y215_986, y215_987, y215_988, y215_989, y215_990, y215_991, y215_992, y215_993, y215_994, y215_995, y215_996, y215_997, y215_998, sald hX (show i + 1 < L by omega), sald hX (show i + 2 < L by omega), sald hX (show i + 3 < L by omega), nI_add, rc_L, rc_M, k1, Option.toList_some, Option.toList_none, List.cons_append, List.nil_append, yB_go, yB_end, zokv_i, zokv_r, zokv_n, eq_self]
  refine ⟨_, _, rfl, fun hX1 => ?_⟩
  simp only [y215_1001, y215_1002, y215_1003, y215_1004, y215_1005, y215_1006, y215_1007, y215_1008, y215_1009, y215_1010, y215_1011, y215_1012, y215_1013, y215_1014, y215_1015, y215_1016, y215_1017, sald hX1 (show i + 1 < L by omega), sald hX1 (show i + 2 < L by omega), sald hX1 (show i + 3 < L by omega), nI_add, rc_L, rc_M, k2, Option.toList_some, Option.toList_none, List.cons_append, List.nil_append, yB_go, yB_end, zokv_i, zokv_r, zokv_n, eq_self]
  refine ⟨_, _, rfl, fun hX2 => ?_⟩
  simp only [y215_1020, y215_1351, y215_1354, nI_add, if_true, Option.toList_some, Option.toList_none, List.cons_append, List.nil_append, yB_go, yB_end, zokv_i, zokv_r, zokv_n, eq_self]
  exact nxt h2 R2 hX2
theorem lwc_27 {d L i : Nat} {xs : Nat → Int32} {P : zU → Prop} {h : zH} (hX : zX L xs h) (R : Rel h) (hi : i + 6 ≤ L) (nxt : ∀ h2, Rel h2 → zX L xs h2 → yR (d + 60) L xs P 18 [.ref 313, .ref 0, .ref 91, .int (nI (i + 6))] [] h2) : yR (d + 60) L xs P 1025 [.ref 313, .ref 0, .ref 91, .int (nI i)] [] h := by
  obtain ⟨x, h1, h2, k1, k2, R2⟩ := o36 d R (xs (i + 1))
  simp only [y215_1025, y215_1026, y215_1027, y215_1028, y215_1029, y215_1030, y215_1031, sald hX (show i + 1 < L by omega), nI_add, rc_L, rc_M, k1, Option.toList_some, Option.toList_none, List.cons_append, List.nil_append, yB_go, yB_end, zokv_i, zokv_r, zokv_n, eq_self]
  refine ⟨_, _, rfl, fun hX1 => ?_⟩
  simp only [y215_1034, y215_1035, y215_1036, y215_1037, y215_1038, y215_1039, y215_1040, sald hX1 (show i + 1 < L by omega), nI_add, rc_L, rc_M, k2, Option.toList_some, Option.toList_none, List.cons_append, List.nil_append, yB_go, yB_end, zokv_i, zokv_r, zokv_n, eq_self]
  refine ⟨_, _, rfl, fun hX2 => ?_⟩
  simp only [y215_1043, y215_1351, y215_1354, nI_add, if_true, Option.toList_some, Option.toList_none, List.cons_append, List.nil_append, yB_go, yB_end, zokv_i, zokv_r, zokv_n, eq_self]
  exact nxt h2 R2 hX2
theorem lwc_28 {d L i : Nat} {xs : Nat → Int32} {P : zU → Prop} {h : zH} (hX : zX L xs h) (R : Rel h) (hi : i + 6 ≤ L) (nxt : ∀ h2, Rel h2 → zX L xs h2 → yR (d + 60) L xs P 18 [.ref 313, .ref 0, .ref 91, .int (nI (i + 6))] [] h2) : yR (d + 60) L xs P 1048 [.ref 313, .ref 0, .ref 91, .int (nI i)] [] h := by
  obtain ⟨x, h1, h2, k1, k2, R2⟩ := o38 d R (xs (i + 1)) (xs (i + 2)) (xs (i + 3))
  simp only [y215_1048, y215_1049, y215_1050, y215_1051, y215_1052, y215_1053, y215_1054, y215_1055, y215_1056, y215_1057, y215_1058, y215_1059, y215_1060, y215_1061, y215_1062, y215_1063, y215_1064, sald hX (show i + 1 < L by omega), sald hX (show i + 2 < L by omega), sald hX (show i + 3 < L by omega), nI_add, rc_L, rc_M, k1, Option.toList_some, Option.toList_none, List.cons_append, List.nil_append, yB_go, yB_end, zokv_i, zokv_r, zokv_n, eq_self]
  refine ⟨_, _, rfl, fun hX1 => ?_⟩
  simp only [y215_1067, y215_1068, y215_1069, y215_1070, y215_1071, y215_1072, y215_1073, y215_1074, y215_1075, y215_1076, y215_1077, y215_1078, y215_1079, y215_1080, y215_1081, y215_1082, y215_1083, sald hX1 (show i + 1 < L by omega), sald hX1 (show i + 2 < L by omega), sald hX1 (show i + 3 < L by omega), nI_add, rc_L, rc_M, k2, Option.toList_some, Option.toList_none, List.cons_append, List.nil_append, yB_go, yB_end, zokv_i, zokv_r, zokv_n, eq_self]
  refine ⟨_, _, rfl, fun hX2 => ?_⟩
  simp only [y215_1086, y215_1351, y215_1354, nI_add, if_true, Option.toList_some, Option.toList_none, List.cons_append, List.nil_append, yB_go, yB_end, zokv_i, zokv_r, zokv_n, eq_self]
  exact nxt h2 R2 hX2
theorem lwc_29 {d L i : Nat} {xs : Nat → Int32} {P : zU → Prop} {h : zH} (hX : zX L xs h) (R : Rel h) (hi : i + 6 ≤ L) (nxt : ∀ h2, Rel h2 → zX L xs h2 → yR (d + 60) L xs P 18 [.ref 313, .ref 0, .ref 91, .int (nI (i + 6))] [] h2) : yR (d + 60) L xs P 1091 [.ref 313, .ref 0, .ref 91, .int (nI i)] [] h := by
  obtain ⟨x, h1, h2, k1, k2, R2⟩ := o39 d R (xs (i + 1)) (xs (i + 2)) (xs (i + 3))
  simp only [y215_1091, y215_1092, y215_1093, y215_1094, y215_1095, y215_1096, y215_1097, y215_1098, y215_1099, y215_1100, y215_1101, y215_1102, y215_1103, y215_1104, y215_1105, y215_1106, y215_1107, sald hX (show i + 1 < L by omega), sald hX (show i + 2 < L by omega), sald hX (show i + 3 < L by omega), nI_add, rc_L, rc_M, k1, Option.toList_some, Option.toList_none, List.cons_append, List.nil_append, yB_go, yB_end, zokv_i, zokv_r, zokv_n, eq_self]
  refine ⟨_, _, rfl, fun hX1 => ?_⟩
  simp only [y215_1110, y215_1111, y215_1112, y215_1113, y215_1114, y215_1115, y215_1116, y215_1117, y215_1118, y215_1119, y215_1120, y215_1121, y215_1122, y215_1123, y215_1124, y215_1125, y215_1126, sald hX1 (show i + 1 < L by omega), sald hX1 (show i + 2 < L by omega), sald hX1 (show i + 3 < L by omega), nI_add, rc_L, rc_M, k2, Option.toList_some, Option.toList_none, List.cons_append, List.nil_append, yB_go, yB_end, zokv_i, zokv_r, zokv_n, eq_self]
  refine ⟨_, _, rfl, fun hX2 => ?_⟩
  simp only [y215_1129, y215_1351, y215_1354, nI_add, if_true, Option.toList_some, Option.toList_none, List.cons_append, List.nil_append, yB_go, yB_end, zokv_i, zokv_r, zokv_n, eq_self]
  exact nxt h2 R2 hX2
theorem lwc_30 {d L i : Nat} {xs : Nat → Int32} {P : zU → Prop} {h : zH} (hX : zX L xs h) (R : Rel h) (hi : i + 6 ≤ L) (nxt : ∀ h2, Rel h2 → zX L xs h2 → yR (d + 60) L xs P 18 [.ref 313, .ref 0, .ref 91, .int (nI (i + 6))] [] h2) : yR (d + 60) L xs P 1134 [.ref 313, .ref 0, .ref 91, .int (nI i)] [] h := by
  obtain ⟨x, h1, h2, k1, k2, R2⟩ := o40 d R (xs (i + 1)) (xs (i + 2)) (xs (i + 3)) (xs (i + 4)) (xs (i + 5))
  simp only [y215_1134, y215_1135, y215_1136, y215_1137, y215_1138, y215_1139, y215_1140, y215_1141, y215_1142, y215_1143, y215_1144, y215_1145, y215_1146, y215_1147, y215_1148, y215_1149, y215_1150, y215_1151, y215_1152, y215_1153, y215_1154, y215_1155, y215_1156, y215_1157, y215_1158, y215_1159, y215_1160, sald hX (show i + 1 < L by omega), sald hX (show i + 2 < L by omega), sald hX (show i + 3 < L by omega), sald hX (show i + 4 < L by omega), sald hX (show i + 5 < L by omega), nI_add, rc_L, rc_M, k1, Option.toList_some, Option.toList_none, List.cons_append, List.nil_append, yB_go, yB_end, zokv_i, zokv_r, zokv_n, eq_self]
  refine ⟨_, _, rfl, fun hX1 => ?_⟩
  simp only [y215_1163, y215_1164, y215_1165, y215_1166, y215_1167, y215_1168, y215_1169, y215_1170, y215_1171, y215_1172, y215_1173, y215_1174, y215_1175, y215_1176, y215_1177, y215_1178, y215_1179, y215_1180, y215_1181, y215_1182, y215_1183, y215_1184, y215_1185, y215_1186, y215_1187, y215_1188, y215_1189, sald hX1 (show i + 1 < L by omega), sald hX1 (show i + 2 < L by omega), sald hX1 (show i + 3 < L by omega), sald hX1 (show i + 4 < L by omega), sald hX1 (show i + 5 < L by omega), nI_add, rc_L, rc_M, k2, Option.toList_some, Option.toList_none, List.cons_append, List.nil_append, yB_go, yB_end, zokv_i, zokv_r, zokv_n, eq_self]
  refine ⟨_, _, rfl, fun hX2 => ?_⟩
  simp only [y215_1192, y215_1351, y215_1354, nI_add, if_true, Option.toList_some, Option.toList_none, List.cons_append, List.nil_append, yB_go, yB_end, zokv_i, zokv_r, zokv_n, eq_self]
  exact nxt h2 R2 hX2
theorem lwc_31 {d L i : Nat} {xs : Nat → Int32} {P : zU → Prop} {h : zH} (hX : zX L xs h) (R : Rel h) (hi : i + 6 ≤ L) (nxt : ∀ h2, Rel h2 → zX L xs h2 → yR (d + 60) L xs P 18 [.ref 313, .ref 0, .ref 91, .int (nI (i + 6))] [] h2) : yR (d + 60) L xs P 1197 [.ref 313, .ref 0, .ref 91, .int (nI i)] [] h := by
  obtain ⟨x, h1, h2, k1, k2, R2⟩ := o41 d R (xs (i + 1))
  simp only [y215_1197, y215_1198, y215_1199, y215_1200, y215_1201, y215_1202, y215_1203, sald hX (show i + 1 < L by omega), nI_add, rc_L, rc_M, k1, Option.toList_some, Option.toList_none, List.cons_append, List.nil_append, yB_go, yB_end, zokv_i, zokv_r, zokv_n, eq_self]
  refine ⟨_, _, rfl, fun hX1 => ?_⟩
  simp only [y215_1206, y215_1207, y215_1208, y215_1209, y215_1210, y215_1211, y215_1212, sald hX1 (show i + 1 < L by omega), nI_add, rc_L, rc_M, k2, Option.toList_some, Option.toList_none, List.cons_append, List.nil_append, yB_go, yB_end, zokv_i, zokv_r, zokv_n, eq_self]
  refine ⟨_, _, rfl, fun hX2 => ?_⟩
  simp only [y215_1215, y215_1351, y215_1354, nI_add, if_true, Option.toList_some, Option.toList_none, List.cons_append, List.nil_append, yB_go, yB_end, zokv_i, zokv_r, zokv_n, eq_self]
  exact nxt h2 R2 hX2
theorem lwc_32 {d L i : Nat} {xs : Nat → Int32} {P : zU → Prop} {h : zH} (hX : zX L xs h) (R : Rel h) (hi : i + 6 ≤ L) (nxt : ∀ h2, Rel h2 → zX L xs h2 → yR (d + 60) L xs P 18 [.ref 313, .ref 0, .ref 91, .int (nI (i + 6))] [] h2) : yR (d + 60) L xs P 1220 [.ref 313, .ref 0, .ref 91, .int (nI i)] [] h := by
  obtain ⟨x, h1, h2, k1, k2, R2⟩ := o42 d R (xs (i + 1))
  simp only [y215_1220, y215_1221, y215_1222, y215_1223, y215_1224, y215_1225, y215_1226, sald hX (show i + 1 < L by omega), nI_add, rc_L, rc_M, k1, Option.toList_some, Option.toList_none, List.cons_append, List.nil_append, yB_go, yB_end, zokv_i, zokv_r, zokv_n, eq_self]
  refine ⟨_, _, rfl, fun hX1 => ?_⟩
  simp only [y215_1229, y215_1230, y215_1231, y215_1232, y215_1233, y215_1234, y215_1235, sald hX1 (show i + 1 < L by omega), nI_add, rc_L, rc_M, k2, Option.toList_some, Option.toList_none, List.cons_append, List.nil_append, yB_go, yB_end, zokv_i, zokv_r, zokv_n, eq_self]
  refine ⟨_, _, rfl, fun hX2 => ?_⟩
  simp only [y215_1238, y215_1351, y215_1354, nI_add, if_true, Option.toList_some, Option.toList_none, List.cons_append, List.nil_append, yB_go, yB_end, zokv_i, zokv_r, zokv_n, eq_self]
  exact nxt h2 R2 hX2
theorem lwc_33 {d L i : Nat} {xs : Nat → Int32} {P : zU → Prop} {h : zH} (hX : zX L xs h) (R : Rel h) (hi : i + 6 ≤ L) (nxt : ∀ h2, Rel h2 → zX L xs h2 → yR (d + 60) L xs P 18 [.ref 313, .ref 0, .ref 91, .int (nI (i + 6))] [] h2) : yR (d + 60) L xs P 1243 [.ref 313, .ref 0, .ref 91, .int (nI i)] [] h := by
  obtain ⟨x, h1, h2, k1, k2, R2⟩ := o43 d R
  simp only [y215_1243, y215_1244, nI_add, rc_L, rc_M, k1, Option.toList_some, Option.toList_none, List.cons_append, List.nil_append, yB_go, yB_end, zokv_i, zokv_r, zokv_n, eq_self]
  refine ⟨_, _, rfl, fun hX1 => ?_⟩
  simp only [y215_1247, y215_1248, nI_add, rc_L, rc_M, k2, Option.toList_some, Option.toList_none, List.cons_append, List.nil_append, yB_go, yB_end, zokv_i, zokv_r, zokv_n, eq_self]
  refine ⟨_, _, rfl, fun hX2 => ?_⟩
  simp only [y215_1251, y215_1351, y215_1354, nI_add, if_true, Option.toList_some, Option.toList_none, List.cons_append, List.nil_append, yB_go, yB_end, zokv_i, zokv_r, zokv_n, eq_self]
  exact nxt h2 R2 hX2
theorem lwc_34 {d L i : Nat} {xs : Nat → Int32} {P : zU → Prop} {h : zH} (hX : zX L xs h) (R : Rel h) (hi : i + 6 ≤ L) (nxt : ∀ h2, Rel h2 → zX L xs h2 → yR (d + 60) L xs P 18 [.ref 313, .ref 0, .ref 91, .int (nI (i + 6))] [] h2) : yR (d + 60) L xs P 1256 [.ref 313, .ref 0, .ref 91, .int (nI i)] [] h := by
  obtain ⟨x, h1, h2, k1, k2, R2⟩ := o44 d R
  simp only [y215_1256, y215_1257, nI_add, rc_L, rc_M, k1, Option.toList_some, Option.toList_none, List.cons_append, List.nil_append, yB_go, yB_end, zokv_i, zokv_r, zokv_n, eq_self]
  refine ⟨_, _, rfl, fun hX1 => ?_⟩
  simp only [y215_1260, y215_1261, nI_add, rc_L, rc_M, k2, Option.toList_some, Option.toList_none, List.cons_append, List.nil_append, yB_go, yB_end, zokv_i, zokv_r, zokv_n, eq_self]
  refine ⟨_, _, rfl, fun hX2 => ?_⟩
  simp only [y215_1264, y215_1351, y215_1354, nI_add, if_true, Option.toList_some, Option.toList_none, List.cons_append, List.nil_append, yB_go, yB_end, zokv_i, zokv_r, zokv_n, eq_self]
  exact nxt h2 R2 hX2
theorem lwc_35 {d L i : Nat} {xs : Nat → Int32} {P : zU → Prop} {h : zH} (hX : zX L xs h) (R : Rel h) (hi : i + 6 ≤ L) (nxt : ∀ h2, Rel h2 → zX L xs h2 → yR (d + 60) L xs P 18 [.ref 313, .ref 0, .ref 91, .int (nI (i + 6))] [] h2) : yR (d + 60) L xs P 1269 [.ref 313, .ref 0, .ref 91, .int (nI i)] [] h := by
  obtain ⟨x, h1, h2, k1, k2, R2⟩ := o45 d R (xs (i + 1))
  simp only [y215_1269, y215_1270, y215_1271, y215_1272, y215_1273, y215_1274, y215_1275, sald hX (show i + 1 < L by omega), nI_add, rc_L, rc_M, k1, Option.toList_some, Option.toList_none, List.cons_append, List.nil_append, yB_go, yB_end, zokv_i, zokv_r, zokv_n, eq_self]
  refine ⟨_, _, rfl, fun hX1 => ?_⟩
  simp only [y215_1278, y215_1279, y215_1280, y215_1281, y215_1282, y215_1283, y215_1284, sald hX1 (show i + 1 < L by omega), nI_add, rc_L, rc_M, k2, Option.toList_some, Option.toList_none, List.cons_append, List.nil_append, yB_go, yB_end, zokv_i, zokv_r, zokv_n, eq_self]
  refine ⟨_, _, rfl, fun hX2 => ?_⟩
  simp only [y215_1287, y215_1351, y215_1354, nI_add, if_true, Option.toList_some, Option.toList_none, List.cons_append, List.nil_append, yB_go, yB_end, zokv_i, zokv_r, zokv_n, eq_self]
  exact nxt h2 R2 hX2
theorem lwc_36 {d L i : Nat} {xs : Nat → Int32} {P : zU → Prop} {h : zH} (hX : zX L xs h) (R : Rel h) (hi : i + 6 ≤ L) (nxt : ∀ h2, Rel h2 → zX L xs h2 → yR (d + 60) L xs P 18 [.ref 313, .ref 0, .ref 91, .int (nI (i + 6))] [] h2) : yR (d + 60) L xs P 1292 [.ref 313, .ref 0, .ref 91, .int (nI i)] [] h := by
  obtain ⟨x, h1, h2, k1, k2, R2⟩ := o46 d R
  simp only [y215_1292, y215_1293, nI_add, rc_L, rc_M, k1, Option.toList_some, Option.toList_none, List.cons_append, List.nil_append, yB_go, yB_end, zokv_i, zokv_r, zokv_n, eq_self]
  refine ⟨_, _, rfl, fun hX1 => ?_⟩
  simp only [y215_1296, y215_1297, nI_add, rc_L, rc_M, k2, Option.toList_some, Option.toList_none, List.cons_append, List.nil_append, yB_go, yB_end, zokv_i, zokv_r, zokv_n, eq_self]
  refine ⟨_, _, rfl, fun hX2 => ?_⟩
  simp only [y215_1300, y215_1351, y215_1354, nI_add, if_true, Option.toList_some, Option.toList_none, List.cons_append, List.nil_append, yB_go, yB_end, zokv_i, zokv_r, zokv_n, eq_self]
  exact nxt h2 R2 hX2
theorem lwc_37 {d L i : Nat} {xs : Nat → Int32} {P : zU → Prop} {h : zH} (hX : zX L xs h) (R : Rel h) (hi : i + 6 ≤ L) (nxt : ∀ h2, Rel h2 → zX L xs h2 → yR (d + 60) L xs P 18 [.ref 313, .ref 0, .ref 91, .int (nI (i + 6))] [] h2) : yR (d + 60) L xs P 1305 [.ref 313, .ref 0, .ref 91, .int (nI i)] [] h := by
  obtain ⟨x, h1, h2, k1, k2, R2⟩ := o47 d R (xs (i + 1))
  simp only [y215_1305, y215_1306, y215_1307, y215_1308, y215_1309, y215_1310, y215_1311, sald hX (show i + 1 < L by omega), nI_add, rc_L, rc_M, k1, Option.toList_some, Option.toList_none, List.cons_append, List.nil_append, yB_go, yB_end, zokv_i, zokv_r, zokv_n, eq_self]
  refine ⟨_, _, rfl, fun hX1 => ?_⟩
  simp only [y215_1314, y215_1315, y215_1316, y215_1317, y215_1318, y215_1319, y215_1320, sald hX1 (show i + 1 < L by omega), nI_add, rc_L, rc_M, k2, Option.toList_some, Option.toList_none, List.cons_append, List.nil_append, yB_go, yB_end, zokv_i, zokv_r, zokv_n, eq_self]
  refine ⟨_, _, rfl, fun hX2 => ?_⟩
  simp only [y215_1323, y215_1351, y215_1354, nI_add, if_true, Option.toList_some, Option.toList_none, List.cons_append, List.nil_append, yB_go, yB_end, zokv_i, zokv_r, zokv_n, eq_self]
  exact nxt h2 R2 hX2
theorem lwc_38 {d L i : Nat} {xs : Nat → Int32} {P : zU → Prop} {h : zH} (hX : zX L xs h) (R : Rel h) (hi : i + 6 ≤ L) (nxt : ∀ h2, Rel h2 → zX L xs h2 → yR (d + 60) L xs P 18 [.ref 313, .ref 0, .ref 91, .int (nI (i + 6))] [] h2) : yR (d + 60) L xs P 1328 [.ref 313, .ref 0, .ref 91, .int (nI i)] [] h := by
  obtain ⟨x, h1, h2, k1, k2, R2⟩ := o48 d R (xs (i + 1))
  simp only [y215_1328, y215_1329, y215_1330, y215_1331, y215_1332, y215_1333, y215_1334, sald hX (show i + 1 < L by omega), nI_add, rc_L, rc_M, k1, Option.toList_some, Option.toList_none, List.cons_append, List.nil_append, yB_go, yB_end, zokv_i, zokv_r, zokv_n, eq_self]
  refine ⟨_, _, rfl, fun hX1 => ?_⟩
  simp only [y215_1337, y215_1338, y215_1339, y215_1340, y215_1341, y215_1342, y215_1343, sald hX1 (show i + 1 < L by omega), nI_add, rc_L, rc_M, k2, Option.toList_some, Option.toList_none, List.cons_append, List.nil_append, yB_go, yB_end, zokv_i, zokv_r, zokv_n, eq_self]
  refine ⟨_, _, rfl, fun hX2 => ?_⟩
  simp only [y215_1346, y215_1351, y215_1354, nI_add, if_true, Option.toList_some, Option.toList_none, List.cons_append, List.nil_append, yB_go, yB_end, zokv_i, zokv_r, zokv_n, eq_self]
  exact nxt h2 R2 hX2
theorem law_m {d L : Nat} {xs : Nat → Int32} (hL : L ≤ 3072) : ∀ (m i : Nat) (h : zH), L + 6 ≤ i + m → i ≤ L + 6 → zX L xs h → Rel h → yR (d + 60) L xs (fun o => o.1 = some (.int (nI 1))) 18 [.ref 313, .ref 0, .ref 91, .int (nI i)] [] h := by
  intro m
  induction m using Nat.strongRecOn with
  | _ m ih =>
  intro i h hm hi hX R
  by_cases q : L < i + 6
  · have lt := (nI_sub6 hL (i := i) (by omega)).mpr q
    simp only [y215_18, y215_19, y215_20, y215_21, y215_23, y215_24, slen hX, lt, if_true, y215_1357, Option.toList_some, Option.toList_none, List.cons_append, List.nil_append, yB_go, yB_end, zokv_i, zokv_r, zokv_n, eq_self]
    exact (y215_1358 _ _ _ _ _ (nI 1) _ (Or.inr rfl)).mpr rfl
  · have lt : ¬ nI L - nI 6 < nI i := fun w => q ((nI_sub6 hL (i := i) (by omega)).mp w)
    have nxt : ∀ h2, Rel h2 → zX L xs h2 → yR (d + 60) L xs (fun o => o.1 = some (.int (nI 1))) 18 [.ref 313, .ref 0, .ref 91, .int (nI (i + 6))] [] h2 := fun h2 R2 X2 => ih (m - 6) (by omega) (i + 6) h2 (by omega) (by omega) X2 R2
    have hi6 : i + 6 ≤ L := by omega
    simp only [y215_18, y215_19, y215_20, y215_21, y215_23, y215_24, y215_27, y215_28, y215_29, y215_30, y215_32, slen hX, sald hX (show i < L by omega), lt, if_false, Option.toList_some, Option.toList_none, List.cons_append, List.nil_append, yB_go, yB_end, zokv_i, zokv_r, zokv_n, eq_self]
    rw [y215_33]
    generalize xs i &&& nI 63 = x
    by_cases e0 : x = nI 0
    · rw [if_pos e0]; exact lwc_0 hX R hi6 nxt
    rw [if_neg e0]
    by_cases e1 : x = nI 1
    · rw [if_pos e1]; exact lwc_1 hX R hi6 nxt
    rw [if_neg e1]
    by_cases e2 : x = nI 2
    · rw [if_pos e2]; exact lwc_2 hX R hi6 nxt
    rw [if_neg e2]
    by_cases e3 : x = nI 3
    · rw [if_pos e3]; exact lwc_3 hX R hi6 nxt
    rw [if_neg e3]
    by_cases e4 : x = nI 4
    · rw [if_pos e4]; exact lwc_4 hX R hi6 nxt
    rw [if_neg e4]
    by_cases e5 : x = nI 5
    · rw [if_pos e5]; exact lwc_5 hX R hi6 nxt
    rw [if_neg e5]
    by_cases e6 : x = nI 6
    · rw [if_pos e6]; exact lwc_6 hX R hi6 nxt
    rw [if_neg e6]
    by_cases e7 : x = nI 7
    · rw [if_pos e7]; exact lwc_7 hX R hi6 nxt
    rw [if_neg e7]
    by_cases e8 : x = nI 8
    · rw [if_pos e8]; exact lwc_8 hX R hi6 nxt
    rw [if_neg e8]
    by_cases e9 : x = nI 9
    · rw [if_pos e9]; exact lwc_9 hX R hi6 nxt
    rw [if_neg e9]
    by_cases e10 : x = nI 10
    · rw [if_pos e10]; exact lwc_10 hX R hi6 nxt
    rw [if_neg e10]
    by_cases e11 : x = nI 11
    · rw [if_pos e11]; exact lwc_11 hX R hi6 nxt
    rw [if_neg e11]
    by_cases e12 : x = nI 12
    · rw [if_pos e12]; exact lwc_12 hX R hi6 nxt
    rw [if_neg e12]
    by_cases e13 : x = nI 13
    · rw [if_pos e13]; exact lwc_13 hX R hi6 nxt
    rw [if_neg e13]
    by_cases e14 : x = nI 14
    · rw [if_pos e14]; exact lwc_14 hX R hi6 nxt
    rw [if_neg e14]
    by_cases e15 : x = nI 15
    · rw [if_pos e15]; exact lwc_15 hX R hi6 nxt
    rw [if_neg e15]
    by_cases e16 : x = nI 16
    · rw [if_pos e16]; exact lwc_16 hX R hi6 nxt
    rw [if_neg e16]
    by_cases e17 : x = nI 17
    · rw [if_pos e17]; exact lwc_17 hX R hi6 nxt
    rw [if_neg e17]
    by_cases e18 : x = nI 18
    · rw [if_pos e18]; exact lwc_18 hX R hi6 nxt
    rw [if_neg e18]
    by_cases e19 : x = nI 19
    · rw [if_pos e19]; exact lwc_19 hX R hi6 nxt
    rw [if_neg e19]
    by_cases e20 : x = nI 20
    · rw [if_pos e20]; exact lwc_20 hX R hi6 nxt
    rw [if_neg e20]
    by_cases e21 : x = nI 21
    · rw [if_pos e21]; exact lwc_21 hX R hi6 nxt
    rw [if_neg e21]
    by_cases e22 : x = nI 22
    · rw [if_pos e22]; exact lwc_22 hX R hi6 nxt
    rw [if_neg e22]
    by_cases e23 : x = nI 23
    · rw [if_pos e23]; exact lwc_23 hX R hi6 nxt
    rw [if_neg e23]
    by_cases e24 : x = nI 24
    · rw [if_pos e24]; exact lwc_24 hX R hi6 nxt
    rw [if_neg e24]
    by_cases e25 : x = nI 25
    · rw [if_pos e25]; exact lwc_25 hX R hi6 nxt
    rw [if_neg e25]
    by_cases e26 : x = nI 26
    · rw [if_pos e26]; exact lwc_26 hX R hi6 nxt
    rw [if_neg e26]
    by_cases e27 : x = nI 27
    · rw [if_pos e27]; exact lwc_27 hX R hi6 nxt
    rw [if_neg e27]
    by_cases e28 : x = nI 28
    · rw [if_pos e28]; exact lwc_28 hX R hi6 nxt
    rw [if_neg e28]
    by_cases e29 : x = nI 29
    · rw [if_pos e29]; exact lwc_29 hX R hi6 nxt
    rw [if_neg e29]
    by_cases e30 : x = nI 30
    · rw [if_pos e30]; exact lwc_30 hX R hi6 nxt
    rw [if_neg e30]
    by_cases e31 : x = nI 31
    · rw [if_pos e31]; exact lwc_31 hX R hi6 nxt
    rw [if_neg e31]
    by_cases e32 : x = nI 32
    · rw [if_pos e32]; exact lwc_32 hX R hi6 nxt
    rw [if_neg e32]
    by_cases e33 : x = nI 33
    · rw [if_pos e33]; exact lwc_33 hX R hi6 nxt
    rw [if_neg e33]
    by_cases e34 : x = nI 34
    · rw [if_pos e34]; exact lwc_34 hX R hi6 nxt
    rw [if_neg e34]
    by_cases e35 : x = nI 35
    · rw [if_pos e35]; exact lwc_35 hX R hi6 nxt
    rw [if_neg e35]
    by_cases e36 : x = nI 36
    · rw [if_pos e36]; exact lwc_36 hX R hi6 nxt
    rw [if_neg e36]
    by_cases e37 : x = nI 37
    · rw [if_pos e37]; exact lwc_37 hX R hi6 nxt
    rw [if_neg e37]
    by_cases e38 : x = nI 38
    · rw [if_pos e38]; exact lwc_38 hX R hi6 nxt
    rw [if_neg e38]
    simp only [y215_1351, y215_1354, nI_add, Option.toList_some, Option.toList_none, List.cons_append, List.nil_append, yB_go, yB_end, zokv_i, zokv_r, zokv_n, eq_self]
    exact nxt h R hX
theorem law_all {d L : Nat} {xs : Nat → Int32} (hL : L ≤ 3072) {h : zH} (hX : zX L xs h) (R : Rel h) : yR (d + 60) L xs (fun o => o.1 = some (.int (nI 1))) 16 [.ref 313, .ref 0, .ref 91, .null] [] h := by
  simp only [y215_16, y215_17, Option.toList_some, Option.toList_none, List.cons_append, List.nil_append, yB_go, yB_end, zokv_i, zokv_r, zokv_n, eq_self]
  exact law_m hL (L + 6) 0 h (by omega) (by omega) hX R
