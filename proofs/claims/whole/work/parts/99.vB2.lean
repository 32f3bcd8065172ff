-- deps: 30.mK 31.mL 32.mM 34.mN 37.mQ 38.mR 39.mS 43.cls 44.sta 44.stb 44.stc 44.std 45.cA 46.cB 47.cC 48.cD 49.cE 50.cF 54.cI 55.cJ 58.cM 59.cN 43.raw 51.cG 53.cH 56.cK 57.cL 52.cG2 60.cO 61.cP 62.cQ 64.iA 65.iB 66.iC 67.iD 68.iE 69.iF 70.iG 71.iH 72.iI 73.iJ 74.iK 75.iL 76.iM 77.iN 79.iR 80.iS 81.iT 82.iU 83.iV 84.iW 85.iX 86.bA 87.bB 88.bC 34.mN2 34.mN3 35.mO 36.mP 33.mM2 40.mT 41.mU 42.mV 89.bD 90.rA 91.rB 92.rC 93.rD 94.rE 95.rF 96.rG 97.rH 98.rI 99.rJ 99.sA 99.sB 99.sC 99.sD 99.tA 99.tB 99.tC 99.tD 99.tE 99.uyS 99.vA 99.vB0
/-! ===== the law: its cases ===== -/
section VB2
variable {C : az_Cl} {X : Nat → Option az_C} {Q : Option Value → az_H → Prop} {lv : az_L} {x0 r b L : Nat} {A B i : Int} {F : Nat} {h : az_H} {xs : Int → Int32}
set_option maxRecDepth 20000 in
set_option maxHeartbeats 1000000 in
theorem lc_beat (hX : X b = some (az_ia 0 L xs)) (hL : L ≤ 3072) (l0 : lv 0 = some (.ref b)) (l1 : lv 1 = some (.ref x0)) (l2 : lv 2 = some (.ref r)) (l3 : lv 3 = some (.int (Int32.ofInt i))) (hi : 0 ≤ i ∧ i + 6 ≤ L) (hh : LH x0 r A B F h) (K : ∀ (F1 : Nat) (h1 : az_H), F1 ≤ F + 1 → LH x0 r A B F1 h1 → az_pL (az_ex az_T 8) X Q (836, lv, [], h1)) : az_pL (az_ex az_T 8) X Q (466, lv, [], h) := by
  obtain ⟨w, hm, h1, F1, e1, e2, o1, o2, c1, c2⟩ := K_beat hh (xs (i + 1))
  have r1 := fun c K => rd_s hX hL hi 1 (by decide) (c := c) (K := K)
  have d1 := fun K => az_mc_eq (K := K) c1
  have d2 := fun K => az_mc_eq (K := K) c2
  simp only [az_sL_466, az_sL_467, az_sL_468, az_sL_469, az_sL_470, az_sL_471, az_sL_472, az_sL_475, az_sL_476, az_sL_477, az_sL_478, az_sL_479, az_sL_480, az_sL_481, az_sL_484, az_sL_487, az_sL_488, Int.reduceEq, Int.reduceLT, Int.reduceLE, Int.reduceAdd, Int.reduceMul, Int.reduceSub, Int.reduceNeg, Int.add_zero, Int.zero_add, ge_iff_le, gt_iff_lt, az_mi_s, az_ml_s, az_ma_r, az_ma_n, az_s1_ap, az_s2_ap, az_nl_i, az_nl_r, az_nl_0, az_nl_e, az_nl_l, az_arg_ap, az_arg_e, Value.category, Option.toList, List.cons_append, List.nil_append, az_cat, reduceIte, Nat.reduceAdd, Nat.reduceEqDiff, Nat.reduceLeDiff, Nat.reduceSub, Nat.reduceLT, true_and, and_true, false_and, and_false, not_true_eq_false, not_false_eq_true, implies_true, true_implies, false_implies, and_self, eq_self, if_true, if_false, true_or, or_true, or_false, false_or, Nat.zero_add, Nat.add_zero, Nat.succ_ne_self, Nat.reduceBneDiff, l0, l1, l2, l3, o1, o2, r1, d1, d2]
  exact K F1 h1 e1 e2
set_option maxRecDepth 20000 in
set_option maxHeartbeats 1000000 in
theorem lc_command (hX : X b = some (az_ia 0 L xs)) (hL : L ≤ 3072) (l0 : lv 0 = some (.ref b)) (l1 : lv 1 = some (.ref x0)) (l2 : lv 2 = some (.ref r)) (l3 : lv 3 = some (.int (Int32.ofInt i))) (hi : 0 ≤ i ∧ i + 6 ≤ L) (hh : LH x0 r A B F h) (K : ∀ (F1 : Nat) (h1 : az_H), F1 ≤ F + 1 → LH x0 r A B F1 h1 → az_pL (az_ex az_T 8) X Q (836, lv, [], h1)) : az_pL (az_ex az_T 8) X Q (489, lv, [], h) := by
  obtain ⟨w, hm, h1, F1, e1, e2, o1, o2, c1, c2⟩ := K_command hh (xs (i + 1))
  have r1 := fun c K => rd_s hX hL hi 1 (by decide) (c := c) (K := K)
  have d1 := fun K => az_mc_eq (K := K) c1
  have d2 := fun K => az_mc_eq (K := K) c2
  simp only [az_sL_489, az_sL_490, az_sL_491, az_sL_492, az_sL_493, az_sL_494, az_sL_495, az_sL_498, az_sL_499, az_sL_500, az_sL_501, az_sL_502, az_sL_503, az_sL_504, az_sL_507, az_sL_510, az_sL_511, Int.reduceEq, Int.reduceLT, Int.reduceLE, Int.reduceAdd, Int.reduceMul, Int.reduceSub, Int.reduceNeg, Int.add_zero, Int.zero_add, ge_iff_le, gt_iff_lt, az_mi_s, az_ml_s, az_ma_r, az_ma_n, az_s1_ap, az_s2_ap, az_nl_i, az_nl_r, az_nl_0, az_nl_e, az_nl_l, az_arg_ap, az_arg_e, Value.category, Option.toList, List.cons_append, List.nil_append, az_cat, reduceIte, Nat.reduceAdd, Nat.reduceEqDiff, Nat.reduceLeDiff, Nat.reduceSub, Nat.reduceLT, true_and, and_true, false_and, and_false, not_true_eq_false, not_false_eq_true, implies_true, true_implies, false_implies, and_self, eq_self, if_true, if_false, true_or, or_true, or_false, false_or, Nat.zero_add, Nat.add_zero, Nat.succ_ne_self, Nat.reduceBneDiff, l0, l1, l2, l3, o1, o2, r1, d1, d2]
  exact K F1 h1 e1 e2
set_option maxRecDepth 20000 in
set_option maxHeartbeats 1000000 in
theorem lc_divert (hX : X b = some (az_ia 0 L xs)) (hL : L ≤ 3072) (l0 : lv 0 = some (.ref b)) (l1 : lv 1 = some (.ref x0)) (l2 : lv 2 = some (.ref r)) (l3 : lv 3 = some (.int (Int32.ofInt i))) (hi : 0 ≤ i ∧ i + 6 ≤ L) (hh : LH x0 r A B F h) (K : ∀ (F1 : Nat) (h1 : az_H), F1 ≤ F + 1 → LH x0 r A B F1 h1 → az_pL (az_ex az_T 8) X Q (836, lv, [], h1)) : az_pL (az_ex az_T 8) X Q (512, lv, [], h) := by
  obtain ⟨w, hm, h1, F1, e1, e2, o1, o2, c1, c2⟩ := K_divert hh (xs (i + 1)) (xs (i + 2)) (xs (i + 3))
  have r1 := fun c K => rd_s hX hL hi 1 (by decide) (c := c) (K := K)
  have r2 := fun c K => rd_s hX hL hi 2 (by decide) (c := c) (K := K)
  have r3 := fun c K => rd_s hX hL hi 3 (by decide) (c := c) (K := K)
  have d1 := fun K => az_mc_eq (K := K) c1
  have d2 := fun K => az_mc_eq (K := K) c2
  simp only [az_sL_512, az_sL_513, az_sL_514, az_sL_515, az_sL_516, az_sL_517, az_sL_518, az_sL_519, az_sL_520, az_sL_521, az_sL_522, az_sL_523, az_sL_524, az_sL_525, az_sL_526, az_sL_527, az_sL_528, az_sL_531, az_sL_532, az_sL_533, az_sL_534, az_sL_535, az_sL_536, az_sL_537, az_sL_538, az_sL_539, az_sL_540, az_sL_541, az_sL_542, az_sL_543, az_sL_544, az_sL_545, az_sL_546, az_sL_547, az_sL_550, az_sL_553, az_sL_554, Int.reduceEq, Int.reduceLT, Int.reduceLE, Int.reduceAdd, Int.reduceMul, Int.reduceSub, Int.reduceNeg, Int.add_zero, Int.zero_add, ge_iff_le, gt_iff_lt, az_mi_s, az_ml_s, az_ma_r, az_ma_n, az_s1_ap, az_s2_ap, az_nl_i, az_nl_r, az_nl_0, az_nl_e, az_nl_l, az_arg_ap, az_arg_e, Value.category, Option.toList, List.cons_append, List.nil_append, az_cat, reduceIte, Nat.reduceAdd, Nat.reduceEqDiff, Nat.reduceLeDiff, Nat.reduceSub, Nat.reduceLT, true_and, and_true, false_and, and_false, not_true_eq_false, not_false_eq_true, implies_true, true_implies, false_implies, and_self, eq_self, if_true, if_false, true_or, or_true, or_false, false_or, Nat.zero_add, Nat.add_zero, Nat.succ_ne_self, Nat.reduceBneDiff, l0, l1, l2, l3, o1, o2, r1, r2, r3, d1, d2]
  exact K F1 h1 e1 e2
set_option maxRecDepth 20000 in
set_option maxHeartbeats 1000000 in
theorem lc_state (hX : X b = some (az_ia 0 L xs)) (hL : L ≤ 3072) (l0 : lv 0 = some (.ref b)) (l1 : lv 1 = some (.ref x0)) (l2 : lv 2 = some (.ref r)) (l3 : lv 3 = some (.int (Int32.ofInt i))) (hi : 0 ≤ i ∧ i + 6 ≤ L) (hh : LH x0 r A B F h) (K : ∀ (F1 : Nat) (h1 : az_H), F1 ≤ F + 1 → LH x0 r A B F1 h1 → az_pL (az_ex az_T 8) X Q (836, lv, [], h1)) : az_pL (az_ex az_T 8) X Q (555, lv, [], h) := by
  obtain ⟨w, hm, h1, F1, e1, e2, o1, o2, c1, c2⟩ := K_state hh (xs (i + 1)) (xs (i + 2))
  have r1 := fun c K => rd_s hX hL hi 1 (by decide) (c := c) (K := K)
  have r2 := fun c K => rd_s hX hL hi 2 (by decide) (c := c) (K := K)
  have d1 := fun K => az_mc_eq (K := K) c1
  have d2 := fun K => az_mc_eq (K := K) c2
  simp only [az_sL_555, az_sL_556, az_sL_557, az_sL_558, az_sL_559, az_sL_560, az_sL_561, az_sL_562, az_sL_563, az_sL_564, az_sL_565, az_sL_566, az_sL_569, az_sL_570, az_sL_571, az_sL_572, az_sL_573, az_sL_574, az_sL_575, az_sL_576, az_sL_577, az_sL_578, az_sL_579, az_sL_580, az_sL_583, az_sL_586, az_sL_587, Int.reduceEq, Int.reduceLT, Int.reduceLE, Int.reduceAdd, Int.reduceMul, Int.reduceSub, Int.reduceNeg, Int.add_zero, Int.zero_add, ge_iff_le, gt_iff_lt, az_mi_s, az_ml_s, az_ma_r, az_ma_n, az_s1_ap, az_s2_ap, az_nl_i, az_nl_r, az_nl_0, az_nl_e, az_nl_l, az_arg_ap, az_arg_e, Value.category, Option.toList, List.cons_append, List.nil_append, az_cat, reduceIte, Nat.reduceAdd, Nat.reduceEqDiff, Nat.reduceLeDiff, Nat.reduceSub, Nat.reduceLT, true_and, and_true, false_and, and_false, not_true_eq_false, not_false_eq_true, implies_true, true_implies, false_implies, and_self, eq_self, if_true, if_false, true_or, or_true, or_false, false_or, Nat.zero_add, Nat.add_zero, Nat.succ_ne_self, Nat.reduceBneDiff, l0, l1, l2, l3, o1, o2, r1, r2, d1, d2]
  exact K F1 h1 e1 e2
set_option maxRecDepth 20000 in
set_option maxHeartbeats 1000000 in
theorem lc_in (hX : X b = some (az_ia 0 L xs)) (hL : L ≤ 3072) (l0 : lv 0 = some (.ref b)) (l1 : lv 1 = some (.ref x0)) (l2 : lv 2 = some (.ref r)) (l3 : lv 3 = some (.int (Int32.ofInt i))) (hi : 0 ≤ i ∧ i + 6 ≤ L) (hh : LH x0 r A B F h) (K : ∀ (F1 : Nat) (h1 : az_H), F1 ≤ F + 1 → LH x0 r A B F1 h1 → az_pL (az_ex az_T 8) X Q (836, lv, [], h1)) : az_pL (az_ex az_T 8) X Q (588, lv, [], h) := by
  obtain ⟨w, hm, h1, F1, e1, e2, o1, o2, c1, c2⟩ := K_in hh (xs (i + 1)) (xs (i + 2)) (xs (i + 3))
  have r1 := fun c K => rd_s hX hL hi 1 (by decide) (c := c) (K := K)
  have r2 := fun c K => rd_s hX hL hi 2 (by decide) (c := c) (K := K)
  have r3 := fun c K => rd_s hX hL hi 3 (by decide) (c := c) (K := K)
  have d1 := fun K => az_mc_eq (K := K) c1
  have d2 := fun K => az_mc_eq (K := K) c2
  simp only [az_sL_588, az_sL_589, az_sL_590, az_sL_591, az_sL_592, az_sL_593, az_sL_594, az_sL_595, az_sL_596, az_sL_597, az_sL_598, az_sL_599, az_sL_600, az_sL_601, az_sL_602, az_sL_603, az_sL_604, az_sL_607, az_sL_608, az_sL_609, az_sL_610, az_sL_611, az_sL_612, az_sL_613, az_sL_614, az_sL_615, az_sL_616, az_sL_617, az_sL_618, az_sL_619, az_sL_620, az_sL_621, az_sL_622, az_sL_623, az_sL_626, az_sL_629, az_sL_630, Int.reduceEq, Int.reduceLT, Int.reduceLE, Int.reduceAdd, Int.reduceMul, Int.reduceSub, Int.reduceNeg, Int.add_zero, Int.zero_add, ge_iff_le, gt_iff_lt, az_mi_s, az_ml_s, az_ma_r, az_ma_n, az_s1_ap, az_s2_ap, az_nl_i, az_nl_r, az_nl_0, az_nl_e, az_nl_l, az_arg_ap, az_arg_e, Value.category, Option.toList, List.cons_append, List.nil_append, az_cat, reduceIte, Nat.reduceAdd, Nat.reduceEqDiff, Nat.reduceLeDiff, Nat.reduceSub, Nat.reduceLT, true_and, and_true, false_and, and_false, not_true_eq_false, not_false_eq_true, implies_true, true_implies, false_implies, and_self, eq_self, if_true, if_false, true_or, or_true, or_false, false_or, Nat.zero_add, Nat.add_zero, Nat.succ_ne_self, Nat.reduceBneDiff, l0, l1, l2, l3, o1, o2, r1, r2, r3, d1, d2]
  exact K F1 h1 e1 e2
set_option maxRecDepth 20000 in
set_option maxHeartbeats 1000000 in
theorem lc_level (hX : X b = some (az_ia 0 L xs)) (hL : L ≤ 3072) (l0 : lv 0 = some (.ref b)) (l1 : lv 1 = some (.ref x0)) (l2 : lv 2 = some (.ref r)) (l3 : lv 3 = some (.int (Int32.ofInt i))) (hi : 0 ≤ i ∧ i + 6 ≤ L) (hh : LH x0 r A B F h) (K : ∀ (F1 : Nat) (h1 : az_H), F1 ≤ F + 1 → LH x0 r A B F1 h1 → az_pL (az_ex az_T 8) X Q (836, lv, [], h1)) : az_pL (az_ex az_T 8) X Q (631, lv, [], h) := by
  obtain ⟨w, hm, h1, F1, e1, e2, o1, o2, c1, c2⟩ := K_level hh (xs (i + 1)) (xs (i + 2))
  have r1 := fun c K => rd_s hX hL hi 1 (by decide) (c := c) (K := K)
  have r2 := fun c K => rd_s hX hL hi 2 (by decide) (c := c) (K := K)
  have d1 := fun K => az_mc_eq (K := K) c1
  have d2 := fun K => az_mc_eq (K := K) c2
  simp only [az_sL_631, az_sL_632, az_sL_633, az_sL_634, az_sL_635, az_sL_636, az_sL_637, az_sL_638, az_sL_639, az_sL_640, az_sL_641, az_sL_642, az_sL_645, az_sL_646, az_sL_647, az_sL_648, az_sL_649, az_sL_650, az_sL_651, az_sL_652, az_sL_653, az_sL_654, az_sL_655, az_sL_656, az_sL_659, az_sL_662, az_sL_663, Int.reduceEq, Int.reduceLT, Int.reduceLE, Int.reduceAdd, Int.reduceMul, Int.reduceSub, Int.reduceNeg, Int.add_zero, Int.zero_add, ge_iff_le, gt_iff_lt, az_mi_s, az_ml_s, az_ma_r, az_ma_n, az_s1_ap, az_s2_ap, az_nl_i, az_nl_r, az_nl_0, az_nl_e, az_nl_l, az_arg_ap, az_arg_e, Value.category, Option.toList, List.cons_append, List.nil_append, az_cat, reduceIte, Nat.reduceAdd, Nat.reduceEqDiff, Nat.reduceLeDiff, Nat.reduceSub, Nat.reduceLT, true_and, and_true, false_and, and_false, not_true_eq_false, not_false_eq_true, implies_true, true_implies, false_implies, and_self, eq_self, if_true, if_false, true_or, or_true, or_false, false_or, Nat.zero_add, Nat.add_zero, Nat.succ_ne_self, Nat.reduceBneDiff, l0, l1, l2, l3, o1, o2, r1, r2, d1, d2]
  exact K F1 h1 e1 e2
end VB2
