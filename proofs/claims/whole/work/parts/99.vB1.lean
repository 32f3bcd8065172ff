-- deps: 30.mK 31.mL 32.mM 34.mN 37.mQ 38.mR 39.mS 43.cls 44.sta 44.stb 44.stc 44.std 45.cA 46.cB 47.cC 48.cD 49.cE 50.cF 54.cI 55.cJ 58.cM 59.cN 43.raw 51.cG 53.cH 56.cK 57.cL 52.cG2 60.cO 61.cP 62.cQ 64.iA 65.iB 66.iC 67.iD 68.iE 69.iF 70.iG 71.iH 72.iI 73.iJ 74.iK 75.iL 76.iM 77.iN 79.iR 80.iS 81.iT 82.iU 83.iV 84.iW 85.iX 86.bA 87.bB 88.bC 34.mN2 34.mN3 35.mO 36.mP 33.mM2 40.mT 41.mU 42.mV 89.bD 90.rA 91.rB 92.rC 93.rD 94.rE 95.rF 96.rG 97.rH 98.rI 99.rJ 99.sA 99.sB 99.sC 99.sD 99.tA 99.tB 99.tC 99.tD 99.tE 99.uyS 99.vA 99.vB0
/-! ===== the law: its cases ===== -/
section VB1
variable {C : az_Cl} {X : Nat → Option az_C} {Q : Option Value → az_H → Prop} {lv : az_L} {x0 r b L : Nat} {A B i : Int} {F : Nat} {h : az_H} {xs : Int → Int32}
set_option maxRecDepth 20000 in
set_option maxHeartbeats 1000000 in
theorem lc_stands (hX : X b = some (az_ia 0 L xs)) (hL : L ≤ 3072) (l0 : lv 0 = some (.ref b)) (l1 : lv 1 = some (.ref x0)) (l2 : lv 2 = some (.ref r)) (l3 : lv 3 = some (.int (Int32.ofInt i))) (hi : 0 ≤ i ∧ i + 6 ≤ L) (hh : LH x0 r A B F h) (K : ∀ (F1 : Nat) (h1 : az_H), F1 ≤ F + 1 → LH x0 r A B F1 h1 → az_pL (az_ex az_T 8) X Q (836, lv, [], h1)) : az_pL (az_ex az_T 8) X Q (294, lv, [], h) := by
  obtain ⟨w, hm, h1, F1, e1, e2, o1, o2, c1, c2⟩ := K_stands hh 
  have d1 := fun K => az_mc_eq (K := K) c1
  have d2 := fun K => az_mc_eq (K := K) c2
  simp only [az_sL_294, az_sL_295, az_sL_298, az_sL_299, az_sL_302, az_sL_305, az_sL_306, Int.reduceEq, Int.reduceLT, Int.reduceLE, Int.reduceAdd, Int.reduceMul, Int.reduceSub, Int.reduceNeg, Int.add_zero, Int.zero_add, ge_iff_le, gt_iff_lt, az_mi_s, az_ml_s, az_ma_r, az_ma_n, az_s1_ap, az_s2_ap, az_nl_i, az_nl_r, az_nl_0, az_nl_e, az_nl_l, az_arg_ap, az_arg_e, Value.category, Option.toList, List.cons_append, List.nil_append, az_cat, reduceIte, Nat.reduceAdd, Nat.reduceEqDiff, Nat.reduceLeDiff, Nat.reduceSub, Nat.reduceLT, true_and, and_true, false_and, and_false, not_true_eq_false, not_false_eq_true, implies_true, true_implies, false_implies, and_self, eq_self, if_true, if_false, true_or, or_true, or_false, false_or, Nat.zero_add, Nat.add_zero, Nat.succ_ne_self, Nat.reduceBneDiff, l0, l1, l2, l3, o1, o2, d1, d2]
  exact K F1 h1 e1 e2
set_option maxRecDepth 20000 in
set_option maxHeartbeats 1000000 in
theorem lc_feed (hX : X b = some (az_ia 0 L xs)) (hL : L ≤ 3072) (l0 : lv 0 = some (.ref b)) (l1 : lv 1 = some (.ref x0)) (l2 : lv 2 = some (.ref r)) (l3 : lv 3 = some (.int (Int32.ofInt i))) (hi : 0 ≤ i ∧ i + 6 ≤ L) (hh : LH x0 r A B F h) (hF : F + 1 ≤ 512) (K : ∀ (F1 : Nat) (h1 : az_H), F1 ≤ F + 1 → LH x0 r A B F1 h1 → az_pL (az_ex az_T 8) X Q (836, lv, [], h1)) : az_pL (az_ex az_T 8) X Q (307, lv, [], h) := by
  obtain ⟨w, hm, h1, F1, e1, e2, o1, o2, c1, c2⟩ := K_feed hh hF (xs (i + 1)) (xs (i + 2)) (xs (i + 3)) (xs (i + 4)) (xs (i + 5))
  have r1 := fun c K => rd_s hX hL hi 1 (by decide) (c := c) (K := K)
  have r2 := fun c K => rd_s hX hL hi 2 (by decide) (c := c) (K := K)
  have r3 := fun c K => rd_s hX hL hi 3 (by decide) (c := c) (K := K)
  have r4 := fun c K => rd_s hX hL hi 4 (by decide) (c := c) (K := K)
  have r5 := fun c K => rd_s hX hL hi 5 (by decide) (c := c) (K := K)
  have d1 := fun K => az_mc_eq (K := K) c1
  have d2 := fun K => az_mc_eq (K := K) c2
  simp only [az_sL_307, az_sL_308, az_sL_309, az_sL_310, az_sL_311, az_sL_312, az_sL_313, az_sL_314, az_sL_315, az_sL_316, az_sL_317, az_sL_318, az_sL_319, az_sL_320, az_sL_321, az_sL_322, az_sL_323, az_sL_324, az_sL_325, az_sL_326, az_sL_327, az_sL_328, az_sL_329, az_sL_330, az_sL_331, az_sL_332, az_sL_333, az_sL_336, az_sL_337, az_sL_338, az_sL_339, az_sL_340, az_sL_341, az_sL_342, az_sL_343, az_sL_344, az_sL_345, az_sL_346, az_sL_347, az_sL_348, az_sL_349, az_sL_350, az_sL_351, az_sL_352, az_sL_353, az_sL_354, az_sL_355, az_sL_356, az_sL_357, az_sL_358, az_sL_359, az_sL_360, az_sL_361, az_sL_362, az_sL_365, az_sL_368, az_sL_369, Int.reduceEq, Int.reduceLT, Int.reduceLE, Int.reduceAdd, Int.reduceMul, Int.reduceSub, Int.reduceNeg, Int.add_zero, Int.zero_add, ge_iff_le, gt_iff_lt, az_mi_s, az_ml_s, az_ma_r, az_ma_n, az_s1_ap, az_s2_ap, az_nl_i, az_nl_r, az_nl_0, az_nl_e, az_nl_l, az_arg_ap, az_arg_e, Value.category, Option.toList, List.cons_append, List.nil_append, az_cat, reduceIte, Nat.reduceAdd, Nat.reduceEqDiff, Nat.reduceLeDiff, Nat.reduceSub, Nat.reduceLT, true_and, and_true, false_and, and_false, not_true_eq_false, not_false_eq_true, implies_true, true_implies, false_implies, and_self, eq_self, if_true, if_false, true_or, or_true, or_false, false_or, Nat.zero_add, Nat.add_zero, Nat.succ_ne_self, Nat.reduceBneDiff, l0, l1, l2, l3, o1, o2, r1, r2, r3, r4, r5, d1, d2]
  exact K F1 h1 e1 e2
set_option maxRecDepth 20000 in
set_option maxHeartbeats 1000000 in
theorem lc_plan (hX : X b = some (az_ia 0 L xs)) (hL : L ≤ 3072) (l0 : lv 0 = some (.ref b)) (l1 : lv 1 = some (.ref x0)) (l2 : lv 2 = some (.ref r)) (l3 : lv 3 = some (.int (Int32.ofInt i))) (hi : 0 ≤ i ∧ i + 6 ≤ L) (hh : LH x0 r A B F h) (K : ∀ (F1 : Nat) (h1 : az_H), F1 ≤ F + 1 → LH x0 r A B F1 h1 → az_pL (az_ex az_T 8) X Q (836, lv, [], h1)) : az_pL (az_ex az_T 8) X Q (370, lv, [], h) := by
  obtain ⟨w, hm, h1, F1, e1, e2, o1, o2, c1, c2⟩ := K_plan hh (xs (i + 1)) (xs (i + 2)) (xs (i + 3))
  have r1 := fun c K => rd_s hX hL hi 1 (by decide) (c := c) (K := K)
  have r2 := fun c K => rd_s hX hL hi 2 (by decide) (c := c) (K := K)
  have r3 := fun c K => rd_s hX hL hi 3 (by decide) (c := c) (K := K)
  have d1 := fun K => az_mc_eq (K := K) c1
  have d2 := fun K => az_mc_eq (K := K) c2
  simp only [az_sL_370, az_sL_371, az_sL_372, az_sL_373, az_sL_374, az_sL_375, az_sL_376, az_sL_377, az_sL_378, az_sL_379, az_sL_380, az_sL_381, az_sL_382, az_sL_383, az_sL_384, az_sL_385, az_sL_386, az_sL_389, az_sL_390, az_sL_391, az_sL_392, az_sL_393, az_sL_394, az_sL_395, az_sL_396, az_sL_397, az_sL_398, az_sL_399, az_sL_400, az_sL_401, az_sL_402, az_sL_403, az_sL_404, az_sL_405, az_sL_408, az_sL_411, az_sL_412, Int.reduceEq, Int.reduceLT, Int.reduceLE, Int.reduceAdd, Int.reduceMul, Int.reduceSub, Int.reduceNeg, Int.add_zero, Int.zero_add, ge_iff_le, gt_iff_lt, az_mi_s, az_ml_s, az_ma_r, az_ma_n, az_s1_ap, az_s2_ap, az_nl_i, az_nl_r, az_nl_0, az_nl_e, az_nl_l, az_arg_ap, az_arg_e, Value.category, Option.toList, List.cons_append, List.nil_append, az_cat, reduceIte, Nat.reduceAdd, Nat.reduceEqDiff, Nat.reduceLeDiff, Nat.reduceSub, Nat.reduceLT, true_and, and_true, false_and, and_false, not_true_eq_false, not_false_eq_true, implies_true, true_implies, false_implies, and_self, eq_self, if_true, if_false, true_or, or_true, or_false, false_or, Nat.zero_add, Nat.add_zero, Nat.succ_ne_self, Nat.reduceBneDiff, l0, l1, l2, l3, o1, o2, r1, r2, r3, d1, d2]
  exact K F1 h1 e1 e2
set_option maxRecDepth 20000 in
set_option maxHeartbeats 1000000 in
theorem lc_rule (hX : X b = some (az_ia 0 L xs)) (hL : L ≤ 3072) (l0 : lv 0 = some (.ref b)) (l1 : lv 1 = some (.ref x0)) (l2 : lv 2 = some (.ref r)) (l3 : lv 3 = some (.int (Int32.ofInt i))) (hi : 0 ≤ i ∧ i + 6 ≤ L) (hh : LH x0 r A B F h) (K : ∀ (F1 : Nat) (h1 : az_H), F1 ≤ F + 1 → LH x0 r A B F1 h1 → az_pL (az_ex az_T 8) X Q (836, lv, [], h1)) : az_pL (az_ex az_T 8) X Q (413, lv, [], h) := by
  obtain ⟨w, hm, h1, F1, e1, e2, o1, o2, c1, c2⟩ := K_rule hh (xs (i + 1)) (xs (i + 2)) (xs (i + 3)) (xs (i + 4))
  have r1 := fun c K => rd_s hX hL hi 1 (by decide) (c := c) (K := K)
  have r2 := fun c K => rd_s hX hL hi 2 (by decide) (c := c) (K := K)
  have r3 := fun c K => rd_s hX hL hi 3 (by decide) (c := c) (K := K)
  have r4 := fun c K => rd_s hX hL hi 4 (by decide) (c := c) (K := K)
  have d1 := fun K => az_mc_eq (K := K) c1
  have d2 := fun K => az_mc_eq (K := K) c2
  simp only [az_sL_413, az_sL_414, az_sL_415, az_sL_416, az_sL_417, az_sL_418, az_sL_419, az_sL_420, az_sL_421, az_sL_422, az_sL_423, az_sL_424, az_sL_425, az_sL_426, az_sL_427, az_sL_428, az_sL_429, az_sL_430, az_sL_431, az_sL_432, az_sL_433, az_sL_434, az_sL_437, az_sL_438, az_sL_439, az_sL_440, az_sL_441, az_sL_442, az_sL_443, az_sL_444, az_sL_445, az_sL_446, az_sL_447, az_sL_448, az_sL_449, az_sL_450, az_sL_451, az_sL_452, az_sL_453, az_sL_454, az_sL_455, az_sL_456, az_sL_457, az_sL_458, az_sL_461, az_sL_464, az_sL_465, Int.reduceEq, Int.reduceLT, Int.reduceLE, Int.reduceAdd, Int.reduceMul, Int.reduceSub, Int.reduceNeg, Int.add_zero, Int.zero_add, ge_iff_le, gt_iff_lt, az_mi_s, az_ml_s, az_ma_r, az_ma_n, az_s1_ap, az_s2_ap, az_nl_i, az_nl_r, az_nl_0, az_nl_e, az_nl_l, az_arg_ap, az_arg_e, Value.category, Option.toList, List.cons_append, List.nil_append, az_cat, reduceIte, Nat.reduceAdd, Nat.reduceEqDiff, Nat.reduceLeDiff, Nat.reduceSub, Nat.reduceLT, true_and, and_true, false_and, and_false, not_true_eq_false, not_false_eq_true, implies_true, true_implies, false_implies, and_self, eq_self, if_true, if_false, true_or, or_true, or_false, false_or, Nat.zero_add, Nat.add_zero, Nat.succ_ne_self, Nat.reduceBneDiff, l0, l1, l2, l3, o1, o2, r1, r2, r3, r4, d1, d2]
  exact K F1 h1 e1 e2
end VB1
