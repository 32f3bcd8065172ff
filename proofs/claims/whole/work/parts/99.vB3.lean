-- deps: 30.mK 31.mL 32.mM 34.mN 37.mQ 38.mR 39.mS 43.cls 44.sta 44.stb 44.stc 44.std 45.cA 46.cB 47.cC 48.cD 49.cE 50.cF 54.cI 55.cJ 58.cM 59.cN 43.raw 51.cG 53.cH 56.cK 57.cL 52.cG2 60.cO 61.cP 62.cQ 64.iA 65.iB 66.iC 67.iD 68.iE 69.iF 70.iG 71.iH 72.iI 73.iJ 74.iK 75.iL 76.iM 77.iN 79.iR 80.iS 81.iT 82.iU 83.iV 84.iW 85.iX 86.bA 87.bB 88.bC 34.mN2 34.mN3 35.mO 36.mP 33.mM2 40.mT 41.mU 42.mV 89.bD 90.rA 91.rB 92.rC 93.rD 94.rE 95.rF 96.rG 97.rH 98.rI 99.rJ 99.sA 99.sB 99.sC 99.sD 99.tA 99.tB 99.tC 99.tD 99.tE 99.uyS 99.vA 99.vB0
/-! ===== the law: its cases ===== -/
section VB3
variable {C : az_Cl} {X : Nat → Option az_C} {Q : Option Value → az_H → Prop} {lv : az_L} {x0 r b L : Nat} {A B i : Int} {F : Nat} {h : az_H} {xs : Int → Int32}
set_option maxRecDepth 20000 in
set_option maxHeartbeats 1000000 in
theorem lc_part (hX : X b = some (az_ia 0 L xs)) (hL : L ≤ 3072) (l0 : lv 0 = some (.ref b)) (l1 : lv 1 = some (.ref x0)) (l2 : lv 2 = some (.ref r)) (l3 : lv 3 = some (.int (Int32.ofInt i))) (hi : 0 ≤ i ∧ i + 6 ≤ L) (hh : LH x0 r A B F h) (K : ∀ (F1 : Nat) (h1 : az_H), F1 ≤ F + 1 → LH x0 r A B F1 h1 → az_pL (az_ex az_T 8) X Q (836, lv, [], h1)) : az_pL (az_ex az_T 8) X Q (664, lv, [], h) := by
  obtain ⟨w, hm, h1, F1, e1, e2, o1, o2, c1, c2⟩ := K_part hh (xs (i + 1)) (xs (i + 2))
  have r1 := fun c K => rd_s hX hL hi 1 (by decide) (c := c) (K := K)
  have r2 := fun c K => rd_s hX hL hi 2 (by decide) (c := c) (K := K)
  have d1 := fun K => az_mc_eq (K := K) c1
  have d2 := fun K => az_mc_eq (K := K) c2
  simp only [az_sL_664, az_sL_665, az_sL_666, az_sL_667, az_sL_668, az_sL_669, az_sL_670, az_sL_671, az_sL_672, az_sL_673, az_sL_674, az_sL_675, az_sL_678, az_sL_679, az_sL_680, az_sL_681, az_sL_682, az_sL_683, az_sL_684, az_sL_685, az_sL_686, az_sL_687, az_sL_688, az_sL_689, az_sL_692, az_sL_695, az_sL_696, Int.reduceEq, Int.reduceLT, Int.reduceLE, Int.reduceAdd, Int.reduceMul, Int.reduceSub, Int.reduceNeg, Int.add_zero, Int.zero_add, ge_iff_le, gt_iff_lt, az_mi_s, az_ml_s, az_ma_r, az_ma_n, az_s1_ap, az_s2_ap, az_nl_i, az_nl_r, az_nl_0, az_nl_e, az_nl_l, az_arg_ap, az_arg_e, Value.category, Option.toList, List.cons_append, List.nil_append, az_cat, reduceIte, Nat.reduceAdd, Nat.reduceEqDiff, Nat.reduceLeDiff, Nat.reduceSub, Nat.reduceLT, true_and, and_true, false_and, and_false, not_true_eq_false, not_false_eq_true, implies_true, true_implies, false_implies, and_self, eq_self, if_true, if_false, true_or, or_true, or_false, false_or, Nat.zero_add, Nat.add_zero, Nat.succ_ne_self, Nat.reduceBneDiff, l0, l1, l2, l3, o1, o2, r1, r2, d1, d2]
  exact K F1 h1 e1 e2
set_option maxRecDepth 20000 in
set_option maxHeartbeats 1000000 in
theorem lc_sacks (hX : X b = some (az_ia 0 L xs)) (hL : L ≤ 3072) (l0 : lv 0 = some (.ref b)) (l1 : lv 1 = some (.ref x0)) (l2 : lv 2 = some (.ref r)) (l3 : lv 3 = some (.int (Int32.ofInt i))) (hi : 0 ≤ i ∧ i + 6 ≤ L) (hh : LH x0 r A B F h) (K : ∀ (F1 : Nat) (h1 : az_H), F1 ≤ F + 1 → LH x0 r A B F1 h1 → az_pL (az_ex az_T 8) X Q (836, lv, [], h1)) : az_pL (az_ex az_T 8) X Q (697, lv, [], h) := by
  obtain ⟨w, hm, h1, F1, e1, e2, o1, o2, c1, c2⟩ := K_sacks hh (xs (i + 1))
  have r1 := fun c K => rd_s hX hL hi 1 (by decide) (c := c) (K := K)
  have d1 := fun K => az_mc_eq (K := K) c1
  have d2 := fun K => az_mc_eq (K := K) c2
  simp only [az_sL_697, az_sL_698, az_sL_699, az_sL_700, az_sL_701, az_sL_702, az_sL_703, az_sL_706, az_sL_707, az_sL_708, az_sL_709, az_sL_710, az_sL_711, az_sL_712, az_sL_715, az_sL_718, az_sL_719, Int.reduceEq, Int.reduceLT, Int.reduceLE, Int.reduceAdd, Int.reduceMul, Int.reduceSub, Int.reduceNeg, Int.add_zero, Int.zero_add, ge_iff_le, gt_iff_lt, az_mi_s, az_ml_s, az_ma_r, az_ma_n, az_s1_ap, az_s2_ap, az_nl_i, az_nl_r, az_nl_0, az_nl_e, az_nl_l, az_arg_ap, az_arg_e, Value.category, Option.toList, List.cons_append, List.nil_append, az_cat, reduceIte, Nat.reduceAdd, Nat.reduceEqDiff, Nat.reduceLeDiff, Nat.reduceSub, Nat.reduceLT, true_and, and_true, false_and, and_false, not_true_eq_false, not_false_eq_true, implies_true, true_implies, false_implies, and_self, eq_self, if_true, if_false, true_or, or_true, or_false, false_or, Nat.zero_add, Nat.add_zero, Nat.succ_ne_self, Nat.reduceBneDiff, l0, l1, l2, l3, o1, o2, r1, d1, d2]
  exact K F1 h1 e1 e2
set_option maxRecDepth 20000 in
set_option maxHeartbeats 1000000 in
theorem lc_aside (hX : X b = some (az_ia 0 L xs)) (hL : L ≤ 3072) (l0 : lv 0 = some (.ref b)) (l1 : lv 1 = some (.ref x0)) (l2 : lv 2 = some (.ref r)) (l3 : lv 3 = some (.int (Int32.ofInt i))) (hi : 0 ≤ i ∧ i + 6 ≤ L) (hh : LH x0 r A B F h) (K : ∀ (F1 : Nat) (h1 : az_H), F1 ≤ F + 1 → LH x0 r A B F1 h1 → az_pL (az_ex az_T 8) X Q (836, lv, [], h1)) : az_pL (az_ex az_T 8) X Q (720, lv, [], h) := by
  obtain ⟨w, hm, h1, F1, e1, e2, o1, o2, c1, c2⟩ := K_aside hh (xs (i + 1)) (xs (i + 2))
  have r1 := fun c K => rd_s hX hL hi 1 (by decide) (c := c) (K := K)
  have r2 := fun c K => rd_s hX hL hi 2 (by decide) (c := c) (K := K)
  have d1 := fun K => az_mc_eq (K := K) c1
  have d2 := fun K => az_mc_eq (K := K) c2
  simp only [az_sL_720, az_sL_721, az_sL_722, az_sL_723, az_sL_724, az_sL_725, az_sL_726, az_sL_727, az_sL_728, az_sL_729, az_sL_730, az_sL_731, az_sL_734, az_sL_735, az_sL_736, az_sL_737, az_sL_738, az_sL_739, az_sL_740, az_sL_741, az_sL_742, az_sL_743, az_sL_744, az_sL_745, az_sL_748, az_sL_751, az_sL_752, Int.reduceEq, Int.reduceLT, Int.reduceLE, Int.reduceAdd, Int.reduceMul, Int.reduceSub, Int.reduceNeg, Int.add_zero, Int.zero_add, ge_iff_le, gt_iff_lt, az_mi_s, az_ml_s, az_ma_r, az_ma_n, az_s1_ap, az_s2_ap, az_nl_i, az_nl_r, az_nl_0, az_nl_e, az_nl_l, az_arg_ap, az_arg_e, Value.category, Option.toList, List.cons_append, List.nil_append, az_cat, reduceIte, Nat.reduceAdd, Nat.reduceEqDiff, Nat.reduceLeDiff, Nat.reduceSub, Nat.reduceLT, true_and, and_true, false_and, and_false, not_true_eq_false, not_false_eq_true, implies_true, true_implies, false_implies, and_self, eq_self, if_true, if_false, true_or, or_true, or_false, false_or, Nat.zero_add, Nat.add_zero, Nat.succ_ne_self, Nat.reduceBneDiff, l0, l1, l2, l3, o1, o2, r1, r2, d1, d2]
  exact K F1 h1 e1 e2
set_option maxRecDepth 20000 in
set_option maxHeartbeats 1000000 in
theorem lc_total (hX : X b = some (az_ia 0 L xs)) (hL : L ≤ 3072) (l0 : lv 0 = some (.ref b)) (l1 : lv 1 = some (.ref x0)) (l2 : lv 2 = some (.ref r)) (l3 : lv 3 = some (.int (Int32.ofInt i))) (hi : 0 ≤ i ∧ i + 6 ≤ L) (hh : LH x0 r A B F h) (K : ∀ (F1 : Nat) (h1 : az_H), F1 ≤ F + 1 → LH x0 r A B F1 h1 → az_pL (az_ex az_T 8) X Q (836, lv, [], h1)) : az_pL (az_ex az_T 8) X Q (753, lv, [], h) := by
  obtain ⟨w, hm, h1, F1, e1, e2, o1, o2, c1, c2⟩ := K_total hh (xs (i + 1))
  have r1 := fun c K => rd_s hX hL hi 1 (by decide) (c := c) (K := K)
  have d1 := fun K => az_mc_eq (K := K) c1
  have d2 := fun K => az_mc_eq (K := K) c2
  simp only [az_sL_753, az_sL_754, az_sL_755, az_sL_756, az_sL_757, az_sL_758, az_sL_759, az_sL_762, az_sL_763, az_sL_764, az_sL_765, az_sL_766, az_sL_767, az_sL_768, az_sL_771, az_sL_772, az_sL_775, az_sL_776, Int.reduceEq, Int.reduceLT, Int.reduceLE, Int.reduceAdd, Int.reduceMul, Int.reduceSub, Int.reduceNeg, Int.add_zero, Int.zero_add, ge_iff_le, gt_iff_lt, az_mi_s, az_ml_s, az_ma_r, az_ma_n, az_s1_ap, az_s2_ap, az_nl_i, az_nl_r, az_nl_0, az_nl_e, az_nl_l, az_arg_ap, az_arg_e, Value.category, Option.toList, List.cons_append, List.nil_append, az_cat, reduceIte, Nat.reduceAdd, Nat.reduceEqDiff, Nat.reduceLeDiff, Nat.reduceSub, Nat.reduceLT, true_and, and_true, false_and, and_false, not_true_eq_false, not_false_eq_true, implies_true, true_implies, false_implies, and_self, eq_self, if_true, if_false, true_or, or_true, or_false, false_or, Nat.zero_add, Nat.add_zero, Nat.succ_ne_self, Nat.reduceBneDiff, l0, l1, l2, l3, o1, o2, r1, d1, d2, lg_cmp_eq]
  exact K F1 h1 e1 e2
set_option maxRecDepth 20000 in
set_option maxHeartbeats 1000000 in
theorem lc_quiet (hX : X b = some (az_ia 0 L xs)) (hL : L ≤ 3072) (l0 : lv 0 = some (.ref b)) (l1 : lv 1 = some (.ref x0)) (l2 : lv 2 = some (.ref r)) (l3 : lv 3 = some (.int (Int32.ofInt i))) (hi : 0 ≤ i ∧ i + 6 ≤ L) (hh : LH x0 r A B F h) (K : ∀ (F1 : Nat) (h1 : az_H), F1 ≤ F + 1 → LH x0 r A B F1 h1 → az_pL (az_ex az_T 8) X Q (836, lv, [], h1)) : az_pL (az_ex az_T 8) X Q (777, lv, [], h) := by
  obtain ⟨w, hm, h1, F1, e1, e2, o1, o2, c1, c2⟩ := K_quiet hh 
  have d1 := fun K => az_mc_eq (K := K) c1
  have d2 := fun K => az_mc_eq (K := K) c2
  simp only [az_sL_777, az_sL_778, az_sL_781, az_sL_782, az_sL_785, az_sL_788, az_sL_789, Int.reduceEq, Int.reduceLT, Int.reduceLE, Int.reduceAdd, Int.reduceMul, Int.reduceSub, Int.reduceNeg, Int.add_zero, Int.zero_add, ge_iff_le, gt_iff_lt, az_mi_s, az_ml_s, az_ma_r, az_ma_n, az_s1_ap, az_s2_ap, az_nl_i, az_nl_r, az_nl_0, az_nl_e, az_nl_l, az_arg_ap, az_arg_e, Value.category, Option.toList, List.cons_append, List.nil_append, az_cat, reduceIte, Nat.reduceAdd, Nat.reduceEqDiff, Nat.reduceLeDiff, Nat.reduceSub, Nat.reduceLT, true_and, and_true, false_and, and_false, not_true_eq_false, not_false_eq_true, implies_true, true_implies, false_implies, and_self, eq_self, if_true, if_false, true_or, or_true, or_false, false_or, Nat.zero_add, Nat.add_zero, Nat.succ_ne_self, Nat.reduceBneDiff, l0, l1, l2, l3, o1, o2, d1, d2]
  exact K F1 h1 e1 e2
set_option maxRecDepth 20000 in
set_option maxHeartbeats 1000000 in
theorem lc_ring (hX : X b = some (az_ia 0 L xs)) (hL : L ≤ 3072) (l0 : lv 0 = some (.ref b)) (l1 : lv 1 = some (.ref x0)) (l2 : lv 2 = some (.ref r)) (l3 : lv 3 = some (.int (Int32.ofInt i))) (hi : 0 ≤ i ∧ i + 6 ≤ L) (hh : LH x0 r A B F h) (K : ∀ (F1 : Nat) (h1 : az_H), F1 ≤ F + 1 → LH x0 r A B F1 h1 → az_pL (az_ex az_T 8) X Q (836, lv, [], h1)) : az_pL (az_ex az_T 8) X Q (790, lv, [], h) := by
  obtain ⟨w, hm, h1, F1, e1, e2, o1, o2, c1, c2⟩ := K_ring hh (xs (i + 1))
  have r1 := fun c K => rd_s hX hL hi 1 (by decide) (c := c) (K := K)
  have d1 := fun K => az_mc_eq (K := K) c1
  have d2 := fun K => az_mc_eq (K := K) c2
  simp only [az_sL_790, az_sL_791, az_sL_792, az_sL_793, az_sL_794, az_sL_795, az_sL_796, az_sL_799, az_sL_800, az_sL_801, az_sL_802, az_sL_803, az_sL_804, az_sL_805, az_sL_808, az_sL_811, az_sL_812, Int.reduceEq, Int.reduceLT, Int.reduceLE, Int.reduceAdd, Int.reduceMul, Int.reduceSub, Int.reduceNeg, Int.add_zero, Int.zero_add, ge_iff_le, gt_iff_lt, az_mi_s, az_ml_s, az_ma_r, az_ma_n, az_s1_ap, az_s2_ap, az_nl_i, az_nl_r, az_nl_0, az_nl_e, az_nl_l, az_arg_ap, az_arg_e, Value.category, Option.toList, List.cons_append, List.nil_append, az_cat, reduceIte, Nat.reduceAdd, Nat.reduceEqDiff, Nat.reduceLeDiff, Nat.reduceSub, Nat.reduceLT, true_and, and_true, false_and, and_false, not_true_eq_false, not_false_eq_true, implies_true, true_implies, false_implies, and_self, eq_self, if_true, if_false, true_or, or_true, or_false, false_or, Nat.zero_add, Nat.add_zero, Nat.succ_ne_self, Nat.reduceBneDiff, l0, l1, l2, l3, o1, o2, r1, d1, d2]
  exact K F1 h1 e1 e2
set_option maxRecDepth 20000 in
set_option maxHeartbeats 1000000 in
theorem lc_count (hX : X b = some (az_ia 0 L xs)) (hL : L ≤ 3072) (l0 : lv 0 = some (.ref b)) (l1 : lv 1 = some (.ref x0)) (l2 : lv 2 = some (.ref r)) (l3 : lv 3 = some (.int (Int32.ofInt i))) (hi : 0 ≤ i ∧ i + 6 ≤ L) (hh : LH x0 r A B F h) (K : ∀ (F1 : Nat) (h1 : az_H), F1 ≤ F + 1 → LH x0 r A B F1 h1 → az_pL (az_ex az_T 8) X Q (836, lv, [], h1)) : az_pL (az_ex az_T 8) X Q (813, lv, [], h) := by
  obtain ⟨w, hm, h1, F1, e1, e2, o1, o2, c1, c2⟩ := K_count hh (xs (i + 1))
  have r1 := fun c K => rd_s hX hL hi 1 (by decide) (c := c) (K := K)
  have d1 := fun K => az_mc_eq (K := K) c1
  have d2 := fun K => az_mc_eq (K := K) c2
  simp only [az_sL_813, az_sL_814, az_sL_815, az_sL_816, az_sL_817, az_sL_818, az_sL_819, az_sL_822, az_sL_823, az_sL_824, az_sL_825, az_sL_826, az_sL_827, az_sL_828, az_sL_831, az_sL_834, az_sL_835, Int.reduceEq, Int.reduceLT, Int.reduceLE, Int.reduceAdd, Int.reduceMul, Int.reduceSub, Int.reduceNeg, Int.add_zero, Int.zero_add, ge_iff_le, gt_iff_lt, az_mi_s, az_ml_s, az_ma_r, az_ma_n, az_s1_ap, az_s2_ap, az_nl_i, az_nl_r, az_nl_0, az_nl_e, az_nl_l, az_arg_ap, az_arg_e, Value.category, Option.toList, List.cons_append, List.nil_append, az_cat, reduceIte, Nat.reduceAdd, Nat.reduceEqDiff, Nat.reduceLeDiff, Nat.reduceSub, Nat.reduceLT, true_and, and_true, false_and, and_false, not_true_eq_false, not_false_eq_true, implies_true, true_implies, false_implies, and_self, eq_self, if_true, if_false, true_or, or_true, or_false, false_or, Nat.zero_add, Nat.add_zero, Nat.succ_ne_self, Nat.reduceBneDiff, l0, l1, l2, l3, o1, o2, r1, d1, d2]
  exact K F1 h1 e1 e2
end VB3
