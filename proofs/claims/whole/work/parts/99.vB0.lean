-- deps: 30.mK 31.mL 32.mM 34.mN 37.mQ 38.mR 39.mS 43.cls 44.sta 44.stb 44.stc 44.std 45.cA 46.cB 47.cC 48.cD 49.cE 50.cF 54.cI 55.cJ 58.cM 59.cN 43.raw 51.cG 53.cH 56.cK 57.cL 52.cG2 60.cO 61.cP 62.cQ 64.iA 65.iB 66.iC 67.iD 68.iE 69.iF 70.iG 71.iH 72.iI 73.iJ 74.iK 75.iL 76.iM 77.iN 79.iR 80.iS 81.iT 82.iU 83.iV 84.iW 85.iX 86.bA 87.bB 88.bC 34.mN2 34.mN3 35.mO 36.mP 33.mM2 40.mT 41.mU 42.mV 89.bD 90.rA 91.rB 92.rC 93.rD 94.rE 95.rF 96.rG 97.rH 98.rI 99.rJ 99.sA 99.sB 99.sC 99.sD 99.tA 99.tB 99.tC 99.tD 99.tE 99.uyS 99.vA
/-! ===== the law: its cases ===== -/
section VB0
variable {C : az_Cl} {X : Nat → Option az_C} {Q : Option Value → az_H → Prop} {lv : az_L} {x0 r b L : Nat} {A B i : Int} {F : Nat} {h : az_H} {xs : Int → Int32}
theorem rd_s (hX : X b = some (az_ia 0 L xs)) (hL : L ≤ 3072) (hi : 0 ≤ i ∧ i + 6 ≤ L) (k : Int) (hk : 0 ≤ k ∧ k < 6) {c : az_C} {K : Int32 → Prop} : az_mr ((X b).getD c) 0 (Int32.ofInt i + Int32.ofInt k).toInt K = K (xs (i + k)) := by
  rw [hX]
  have e : (Int32.ofInt i + Int32.ofInt k).toInt = i + k := by
    rw [az_add, az_toInt (by omega) (by omega)]
  rw [e]
  exact propext ⟨fun q => q.2, fun q => ⟨⟨rfl, by omega, by omega⟩, q⟩⟩
set_option maxRecDepth 20000 in
set_option maxHeartbeats 1000000 in
theorem lc_bin (hX : X b = some (az_ia 0 L xs)) (hL : L ≤ 3072) (l0 : lv 0 = some (.ref b)) (l1 : lv 1 = some (.ref x0)) (l2 : lv 2 = some (.ref r)) (l3 : lv 3 = some (.int (Int32.ofInt i))) (hi : 0 ≤ i ∧ i + 6 ≤ L) (hh : LH x0 r A B F h) (K : ∀ (F1 : Nat) (h1 : az_H), F1 ≤ F + 1 → LH x0 r A B F1 h1 → az_pL (az_ex az_T 8) X Q (836, lv, [], h1)) : az_pL (az_ex az_T 8) X Q (132, lv, [], h) := by
  obtain ⟨w, hm, h1, F1, e1, e2, o1, o2, c1, c2⟩ := K_bin hh (xs (i + 1)) (xs (i + 2))
  have r1 := fun c K => rd_s hX hL hi 1 (by decide) (c := c) (K := K)
  have r2 := fun c K => rd_s hX hL hi 2 (by decide) (c := c) (K := K)
  have d1 := fun K => az_mc_eq (K := K) c1
  have d2 := fun K => az_mc_eq (K := K) c2
  simp only [az_sL_132, az_sL_133, az_sL_134, az_sL_135, az_sL_136, az_sL_137, az_sL_138, az_sL_139, az_sL_140, az_sL_141, az_sL_142, az_sL_143, az_sL_146, az_sL_147, az_sL_148, az_sL_149, az_sL_150, az_sL_151, az_sL_152, az_sL_153, az_sL_154, az_sL_155, az_sL_156, az_sL_157, az_sL_160, az_sL_163, az_sL_164, Int.reduceEq, Int.reduceLT, Int.reduceLE, Int.reduceAdd, Int.reduceMul, Int.reduceSub, Int.reduceNeg, Int.add_zero, Int.zero_add, ge_iff_le, gt_iff_lt, az_mi_s, az_ml_s, az_ma_r, az_ma_n, az_s1_ap, az_s2_ap, az_nl_i, az_nl_r, az_nl_0, az_nl_e, az_nl_l, az_arg_ap, az_arg_e, Value.category, Option.toList, List.cons_append, List.nil_append, az_cat, reduceIte, Nat.reduceAdd, Nat.reduceEqDiff, Nat.reduceLeDiff, Nat.reduceSub, Nat.reduceLT, true_and, and_true, false_and, and_false, not_true_eq_false, not_false_eq_true, implies_true, true_implies, false_implies, and_self, eq_self, if_true, if_false, true_or, or_true, or_false, false_or, Nat.zero_add, Nat.add_zero, Nat.succ_ne_self, Nat.reduceBneDiff, l0, l1, l2, l3, o1, o2, r1, r2, d1, d2]
  exact K F1 h1 e1 e2
set_option maxRecDepth 20000 in
set_option maxHeartbeats 1000000 in
theorem lc_stage (hX : X b = some (az_ia 0 L xs)) (hL : L ≤ 3072) (l0 : lv 0 = some (.ref b)) (l1 : lv 1 = some (.ref x0)) (l2 : lv 2 = some (.ref r)) (l3 : lv 3 = some (.int (Int32.ofInt i))) (hi : 0 ≤ i ∧ i + 6 ≤ L) (hh : LH x0 r A B F h) (K : ∀ (F1 : Nat) (h1 : az_H), F1 ≤ F + 1 → LH x0 r A B F1 h1 → az_pL (az_ex az_T 8) X Q (836, lv, [], h1)) : az_pL (az_ex az_T 8) X Q (165, lv, [], h) := by
  obtain ⟨w, hm, h1, F1, e1, e2, o1, o2, c1, c2⟩ := K_stage hh (xs (i + 1)) (xs (i + 2)) (xs (i + 3)) (xs (i + 4))
  have r1 := fun c K => rd_s hX hL hi 1 (by decide) (c := c) (K := K)
  have r2 := fun c K => rd_s hX hL hi 2 (by decide) (c := c) (K := K)
  have r3 := fun c K => rd_s hX hL hi 3 (by decide) (c := c) (K := K)
  have r4 := fun c K => rd_s hX hL hi 4 (by decide) (c := c) (K := K)
  have d1 := fun K => az_mc_eq (K := K) c1
  have d2 := fun K => az_mc_eq (K := K) c2
  simp only [az_sL_165, az_sL_166, az_sL_167, az_sL_168, az_sL_169, az_sL_170, az_sL_171, az_sL_172, az_sL_173, az_sL_174, az_sL_175, az_sL_176, az_sL_177, az_sL_178, az_sL_179, az_sL_180, az_sL_181, az_sL_182, az_sL_183, az_sL_184, az_sL_185, az_sL_186, az_sL_189, az_sL_190, az_sL_191, az_sL_192, az_sL_193, az_sL_194, az_sL_195, az_sL_196, az_sL_197, az_sL_198, az_sL_199, az_sL_200, az_sL_201, az_sL_202, az_sL_203, az_sL_204, az_sL_205, az_sL_206, az_sL_207, az_sL_208, az_sL_209, az_sL_210, az_sL_213, az_sL_216, az_sL_217, Int.reduceEq, Int.reduceLT, Int.reduceLE, Int.reduceAdd, Int.reduceMul, Int.reduceSub, Int.reduceNeg, Int.add_zero, Int.zero_add, ge_iff_le, gt_iff_lt, az_mi_s, az_ml_s, az_ma_r, az_ma_n, az_s1_ap, az_s2_ap, az_nl_i, az_nl_r, az_nl_0, az_nl_e, az_nl_l, az_arg_ap, az_arg_e, Value.category, Option.toList, List.cons_append, List.nil_append, az_cat, reduceIte, Nat.reduceAdd, Nat.reduceEqDiff, Nat.reduceLeDiff, Nat.reduceSub, Nat.reduceLT, true_and, and_true, false_and, and_false, not_true_eq_false, not_false_eq_true, implies_true, true_implies, false_implies, and_self, eq_self, if_true, if_false, true_or, or_true, or_false, false_or, Nat.zero_add, Nat.add_zero, Nat.succ_ne_self, Nat.reduceBneDiff, l0, l1, l2, l3, o1, o2, r1, r2, r3, r4, d1, d2]
  exact K F1 h1 e1 e2
set_option maxRecDepth 20000 in
set_option maxHeartbeats 1000000 in
theorem lc_from (hX : X b = some (az_ia 0 L xs)) (hL : L ≤ 3072) (l0 : lv 0 = some (.ref b)) (l1 : lv 1 = some (.ref x0)) (l2 : lv 2 = some (.ref r)) (l3 : lv 3 = some (.int (Int32.ofInt i))) (hi : 0 ≤ i ∧ i + 6 ≤ L) (hh : LH x0 r A B F h) (K : ∀ (F1 : Nat) (h1 : az_H), F1 ≤ F + 1 → LH x0 r A B F1 h1 → az_pL (az_ex az_T 8) X Q (836, lv, [], h1)) : az_pL (az_ex az_T 8) X Q (218, lv, [], h) := by
  obtain ⟨w, hm, h1, F1, e1, e2, o1, o2, c1, c2⟩ := K_from hh (xs (i + 1)) (xs (i + 2))
  have r1 := fun c K => rd_s hX hL hi 1 (by decide) (c := c) (K := K)
  have r2 := fun c K => rd_s hX hL hi 2 (by decide) (c := c) (K := K)
  have d1 := fun K => az_mc_eq (K := K) c1
  have d2 := fun K => az_mc_eq (K := K) c2
  simp only [az_sL_218, az_sL_219, az_sL_220, az_sL_221, az_sL_222, az_sL_223, az_sL_224, az_sL_225, az_sL_226, az_sL_227, az_sL_228, az_sL_229, az_sL_232, az_sL_233, az_sL_234, az_sL_235, az_sL_236, az_sL_237, az_sL_238, az_sL_239, az_sL_240, az_sL_241, az_sL_242, az_sL_243, az_sL_246, az_sL_249, az_sL_250, Int.reduceEq, Int.reduceLT, Int.reduceLE, Int.reduceAdd, Int.reduceMul, Int.reduceSub, Int.reduceNeg, Int.add_zero, Int.zero_add, ge_iff_le, gt_iff_lt, az_mi_s, az_ml_s, az_ma_r, az_ma_n, az_s1_ap, az_s2_ap, az_nl_i, az_nl_r, az_nl_0, az_nl_e, az_nl_l, az_arg_ap, az_arg_e, Value.category, Option.toList, List.cons_append, List.nil_append, az_cat, reduceIte, Nat.reduceAdd, Nat.reduceEqDiff, Nat.reduceLeDiff, Nat.reduceSub, Nat.reduceLT, true_and, and_true, false_and, and_false, not_true_eq_false, not_false_eq_true, implies_true, true_implies, false_implies, and_self, eq_self, if_true, if_false, true_or, or_true, or_false, false_or, Nat.zero_add, Nat.add_zero, Nat.succ_ne_self, Nat.reduceBneDiff, l0, l1, l2, l3, o1, o2, r1, r2, d1, d2]
  exact K F1 h1 e1 e2
set_option maxRecDepth 20000 in
set_option maxHeartbeats 1000000 in
theorem lc_to (hX : X b = some (az_ia 0 L xs)) (hL : L ≤ 3072) (l0 : lv 0 = some (.ref b)) (l1 : lv 1 = some (.ref x0)) (l2 : lv 2 = some (.ref r)) (l3 : lv 3 = some (.int (Int32.ofInt i))) (hi : 0 ≤ i ∧ i + 6 ≤ L) (hh : LH x0 r A B F h) (K : ∀ (F1 : Nat) (h1 : az_H), F1 ≤ F + 1 → LH x0 r A B F1 h1 → az_pL (az_ex az_T 8) X Q (836, lv, [], h1)) : az_pL (az_ex az_T 8) X Q (251, lv, [], h) := by
  obtain ⟨w, hm, h1, F1, e1, e2, o1, o2, c1, c2⟩ := K_to hh (xs (i + 1)) (xs (i + 2)) (xs (i + 3))
  have r1 := fun c K => rd_s hX hL hi 1 (by decide) (c := c) (K := K)
  have r2 := fun c K => rd_s hX hL hi 2 (by decide) (c := c) (K := K)
  have r3 := fun c K => rd_s hX hL hi 3 (by decide) (c := c) (K := K)
  have d1 := fun K => az_mc_eq (K := K) c1
  have d2 := fun K => az_mc_eq (K := K) c2
  simp only [az_sL_251, az_sL_252, az_sL_253, az_sL_254, az_sL_255, az_sL_256, az_sL_257, az_sL_258, az_sL_259, az_sL_260, az_sL_261, az_sL_262, az_sL_263, az_sL_264, az_sL_265, az_sL_266, az_sL_267, az_sL_270, az_sL_271, az_sL_272, az_sL_273, az_sL_274, az_sL_275, az_sL_276, az_sL_277, az_sL_278, az_sL_279, az_sL_280, az_sL_281, az_sL_282, az_sL_283, az_sL_284, az_sL_285, az_sL_286, az_sL_289, az_sL_292, az_sL_293, Int.reduceEq, Int.reduceLT, Int.reduceLE, Int.reduceAdd, Int.reduceMul, Int.reduceSub, Int.reduceNeg, Int.add_zero, Int.zero_add, ge_iff_le, gt_iff_lt, az_mi_s, az_ml_s, az_ma_r, az_ma_n, az_s1_ap, az_s2_ap, az_nl_i, az_nl_r, az_nl_0, az_nl_e, az_nl_l, az_arg_ap, az_arg_e, Value.category, Option.toList, List.cons_append, List.nil_append, az_cat, reduceIte, Nat.reduceAdd, Nat.reduceEqDiff, Nat.reduceLeDiff, Nat.reduceSub, Nat.reduceLT, true_and, and_true, false_and, and_false, not_true_eq_false, not_false_eq_true, implies_true, true_implies, false_implies, and_self, eq_self, if_true, if_false, true_or, or_true, or_false, false_or, Nat.zero_add, Nat.add_zero, Nat.succ_ne_self, Nat.reduceBneDiff, l0, l1, l2, l3, o1, o2, r1, r2, r3, d1, d2]
  exact K F1 h1 e1 e2
end VB0
