-- deps: 43.cls 43.raw 44.sta 44.stb 44.stc 44.std 45.cA 46.cB 47.cC 48.cD 51.cG 53.cH 54.cI 56.cK 57.cL 99.uA 99.uB
/-! ===== the class: MillLine.<init> ===== -/
section UC
variable {n a : Nat} {Q : Option Value → az_H → Prop} {lv : az_L} {L : List Value}
theorem sg_put {H : az_H} {k v : Nat} (hG : H.1 a = az_ob 10 L) (hk : k < L.length) {K : az_H → Prop} (h : K (va_up H.1 a (az_ob 10 (L.set k (.ref v))), H.2)) : az_mp (H.1 a) 10 k 3 (.ref v) (fun c => K (az_uh H a c)) := by
  rw [hG]
  exact mp_ob hk rfl h
set_option maxRecDepth 20000 in
set_option maxHeartbeats 1000000 in
theorem sg_12 {h : az_H} (l0 : lv 0 = some (.ref a)) (ha : h.1 a = az_ob 10 L) (hL : L.length = 8) (hl : a < h.2.1) (hq : az_p109 (az_ex az_T (n + 1)) Q (15, lv, [], (va_up (va_up (va_up (va_up h.1 h.2.1 (az_ob 2 [.ref (h.2.1 + 1), .ref (h.2.1 + 2), .int 0])) (h.2.1 + 1) (zR 0 16)) (h.2.1 + 2) (zR 1 12)) a (az_ob 10 (L.set 0 (.ref h.2.1))), h.2.1 + 3, h.2.2 + 31))) : az_p109 (az_ex az_T (n + 1)) Q (4, lv, [], h) := by
  have cl := fun K => cx_iLayout (n := n) (K := K) (az_nw h (az_ob 2 (az_z 2)) 3) h.2.1 (va_eq ..) (Nat.lt_succ_self _)
  simp only [az_s109_4, l0, az_ma_r, az_s109_5, az_s109_8r, az_s109_9, cl, List.nil_append]
  refine ⟨Nat.le_of_ble_eq_true rfl, ?_⟩
  rw [az_s109_12]
  refine sg_put (L := L) (by
    show va_up (va_up (va_up (va_up h.1 h.2.1 _) (h.2.1 + 1) _) (h.2.1 + 1 + 1) _) h.2.1 _ a = _
    simp (disch := omega) only [va_ne, ha]) (by omega) (K := fun x => az_p109 (az_ex az_T (n + 1)) Q (15, lv, [], x)) ?_
  refine cast (congrArg (fun x => az_p109 (az_ex az_T (n + 1)) Q (15, lv, [], x)) ?_) hq
  refine Prod.ext ?_ (Prod.ext ?_ ?_)
  · funext x
    show va_up _ a _ x = va_up (va_up (va_up (va_up (va_up h.1 h.2.1 _) (h.2.1 + 1) _) (h.2.1 + 1 + 1) _) h.2.1 _) a _ x
    show va_up _ a _ x = va_up _ a _ x
    unfold va_up az_nw
    grind
  · show h.2.1 + 3 = h.2.1 + 1 + 2
    omega
  · show h.2.2 + 31 = h.2.2 + 3 + 28
    omega
set_option maxRecDepth 20000 in
set_option maxHeartbeats 1000000 in
theorem sg_37 {h : az_H} (l0 : lv 0 = some (.ref a)) (ha : h.1 a = az_ob 10 L) (hL : L.length = 8) (hl : a < h.2.1) (hq : az_p109 (az_ex az_T (n + 1)) Q (26, lv, [], (va_up (va_up (va_up (va_up (va_up (va_up h.1 h.2.1 (az_ob 5 [.int 0, .ref (h.2.1 + 1), .ref (h.2.1 + 2), .ref (h.2.1 + 3), .ref (h.2.1 + 4)])) (h.2.1 + 1) (zI 64)) (h.2.1 + 2) (zI 64)) (h.2.1 + 3) (zI 64)) (h.2.1 + 4) (zI 256)) a (az_ob 10 (L.set 1 (.ref h.2.1))), h.2.1 + 5, h.2.2 + 453))) : az_p109 (az_ex az_T (n + 1)) Q (15, lv, [], h) := by
  have cl := fun K => cx_iLots (n := n) (K := K) (az_nw h (az_ob 5 (az_z 5)) 5) h.2.1 (va_eq ..) (Nat.lt_succ_self _)
  simp only [az_s109_15, l0, az_ma_r, az_s109_16, az_s109_19r, az_s109_20, cl, List.nil_append]
  refine ⟨Nat.le_of_ble_eq_true rfl, ?_⟩
  rw [az_s109_23]
  refine sg_put (L := L) (by
    show va_up (va_up (va_up (va_up (va_up (va_up h.1 h.2.1 _) (h.2.1 + 1) _) (h.2.1 + 1 + 1) _) (h.2.1 + 1 + 2) _) (h.2.1 + 1 + 3) _) h.2.1 _ a = _
    simp (disch := omega) only [va_ne, ha]) (by omega) (K := fun x => az_p109 (az_ex az_T (n + 1)) Q (26, lv, [], x)) ?_
  refine cast (congrArg (fun x => az_p109 (az_ex az_T (n + 1)) Q (26, lv, [], x)) ?_) hq
  refine Prod.ext ?_ (Prod.ext ?_ ?_)
  · funext x
    show va_up _ a _ x = va_up (va_up (va_up (va_up (va_up (va_up (va_up h.1 h.2.1 _) (h.2.1 + 1) _) (h.2.1 + 1 + 1) _) (h.2.1 + 1 + 2) _) (h.2.1 + 1 + 3) _) h.2.1 _) a _ x
    show va_up _ a _ x = va_up _ a _ x
    unfold va_up az_nw
    grind
  · show h.2.1 + 5 = h.2.1 + 1 + 4
    omega
  · show h.2.2 + 453 = h.2.2 + 5 + 448
    omega
set_option maxRecDepth 20000 in
set_option maxHeartbeats 1000000 in
theorem sg_23 {h : az_H} (l0 : lv 0 = some (.ref a)) (ha : h.1 a = az_ob 10 L) (hL : L.length = 8) (hl : a < h.2.1) (hq : az_p109 (az_ex az_T (n + 1)) Q (37, lv, [], (va_up (va_up (va_up (va_up h.1 h.2.1 (az_ob 3 [.long 0, .long 0, .long 0, .long 0, .long 0, .ref (h.2.1 + 1), .int 0, .ref (h.2.1 + 2)])) (h.2.1 + 1) (zI 10)) (h.2.1 + 2) (zI 400)) a (az_ob 10 (L.set 2 (.ref h.2.1))), h.2.1 + 3, h.2.2 + 418))) : az_p109 (az_ex az_T (n + 1)) Q (26, lv, [], h) := by
  have cl := fun K => cx_iLedger (n := n) (K := K) (az_nw h (az_ob 3 (az_z 3)) 8) h.2.1 (va_eq ..) (Nat.lt_succ_self _)
  simp only [az_s109_26, l0, az_ma_r, az_s109_27, az_s109_30r, az_s109_31, cl, List.nil_append]
  refine ⟨Nat.le_of_ble_eq_true rfl, ?_⟩
  rw [az_s109_34]
  refine sg_put (L := L) (by
    show va_up (va_up (va_up (va_up h.1 h.2.1 _) (h.2.1 + 1) _) (h.2.1 + 1 + 1) _) h.2.1 _ a = _
    simp (disch := omega) only [va_ne, ha]) (by omega) (K := fun x => az_p109 (az_ex az_T (n + 1)) Q (37, lv, [], x)) ?_
  refine cast (congrArg (fun x => az_p109 (az_ex az_T (n + 1)) Q (37, lv, [], x)) ?_) hq
  refine Prod.ext ?_ (Prod.ext ?_ ?_)
  · funext x
    show va_up _ a _ x = va_up (va_up (va_up (va_up (va_up h.1 h.2.1 _) (h.2.1 + 1) _) (h.2.1 + 1 + 1) _) h.2.1 _) a _ x
    show va_up _ a _ x = va_up _ a _ x
    unfold va_up az_nw
    grind
  · show h.2.1 + 3 = h.2.1 + 1 + 2
    omega
  · show h.2.2 + 418 = h.2.2 + 8 + 410
    omega
set_option maxRecDepth 20000 in
set_option maxHeartbeats 1000000 in
theorem sg_8 {h : az_H} (l0 : lv 0 = some (.ref a)) (ha : h.1 a = az_ob 10 L) (hL : L.length = 8) (hl : a < h.2.1) (hq : az_p109 (az_ex az_T (n + 1)) Q (48, lv, [], (va_up (va_up (va_up (va_up (va_up h.1 h.2.1 (az_ob 1 [.ref (h.2.1 + 1), .ref (h.2.1 + 2), .ref (h.2.1 + 3), .int 0, .int 0])) (h.2.1 + 1) (zI 40)) (h.2.1 + 2) (zI 40)) (h.2.1 + 3) (zI 40)) a (az_ob 10 (L.set 3 (.ref h.2.1))), h.2.1 + 4, h.2.2 + 125))) : az_p109 (az_ex az_T (n + 1)) Q (37, lv, [], h) := by
  have cl := fun K => cx_iFaults (n := n) (K := K) (az_nw h (az_ob 1 (az_z 1)) 5) h.2.1 (va_eq ..) (Nat.lt_succ_self _)
  simp only [az_s109_37, l0, az_ma_r, az_s109_38, az_s109_41r, az_s109_42, cl, List.nil_append]
  refine ⟨Nat.le_of_ble_eq_true rfl, ?_⟩
  rw [az_s109_45]
  refine sg_put (L := L) (by
    show va_up (va_up (va_up (va_up (va_up h.1 h.2.1 _) (h.2.1 + 1) _) (h.2.1 + 1 + 1) _) (h.2.1 + 1 + 2) _) h.2.1 _ a = _
    simp (disch := omega) only [va_ne, ha]) (by omega) (K := fun x => az_p109 (az_ex az_T (n + 1)) Q (48, lv, [], x)) ?_
  refine cast (congrArg (fun x => az_p109 (az_ex az_T (n + 1)) Q (48, lv, [], x)) ?_) hq
  refine Prod.ext ?_ (Prod.ext ?_ ?_)
  · funext x
    show va_up _ a _ x = va_up (va_up (va_up (va_up (va_up (va_up h.1 h.2.1 _) (h.2.1 + 1) _) (h.2.1 + 1 + 1) _) (h.2.1 + 1 + 2) _) h.2.1 _) a _ x
    show va_up _ a _ x = va_up _ a _ x
    unfold va_up az_nw
    grind
  · show h.2.1 + 4 = h.2.1 + 1 + 3
    omega
  · show h.2.2 + 125 = h.2.2 + 5 + 120
    omega
set_option maxRecDepth 20000 in
set_option maxHeartbeats 1000000 in
theorem sg_53 {h : az_H} (l0 : lv 0 = some (.ref a)) (ha : h.1 a = az_ob 10 L) (hL : L.length = 8) (hl : a < h.2.1) (hq : az_p109 (az_ex az_T (n + 1)) Q (86, lv, [], (va_up (va_up (va_up (va_up (va_up h.1 h.2.1 (az_ob 6 [.ref (h.2.1 + 1), .ref (h.2.1 + 2), .ref (h.2.1 + 3), .int 0])) (h.2.1 + 1) (zI 12)) (h.2.1 + 2) (zI 12)) (h.2.1 + 3) (zI 12)) a (az_ob 10 (L.set 5 (.ref h.2.1))), h.2.1 + 4, h.2.2 + 40))) : az_p109 (az_ex az_T (n + 1)) Q (75, lv, [], h) := by
  have cl := fun K => cx_iRings (n := n) (K := K) (az_nw h (az_ob 6 (az_z 6)) 4) h.2.1 (va_eq ..) (Nat.lt_succ_self _)
  simp only [az_s109_75, l0, az_ma_r, az_s109_76, az_s109_79r, az_s109_80, cl, List.nil_append]
  refine ⟨Nat.le_of_ble_eq_true rfl, ?_⟩
  rw [az_s109_83]
  refine sg_put (L := L) (by
    show va_up (va_up (va_up (va_up (va_up h.1 h.2.1 _) (h.2.1 + 1) _) (h.2.1 + 1 + 1) _) (h.2.1 + 1 + 2) _) h.2.1 _ a = _
    simp (disch := omega) only [va_ne, ha]) (by omega) (K := fun x => az_p109 (az_ex az_T (n + 1)) Q (86, lv, [], x)) ?_
  refine cast (congrArg (fun x => az_p109 (az_ex az_T (n + 1)) Q (86, lv, [], x)) ?_) hq
  refine Prod.ext ?_ (Prod.ext ?_ ?_)
  · funext x
    show va_up _ a _ x = va_up (va_up (va_up (va_up (va_up (va_up h.1 h.2.1 _) (h.2.1 + 1) _) (h.2.1 + 1 + 1) _) (h.2.1 + 1 + 2) _) h.2.1 _) a _ x
    show va_up _ a _ x = va_up _ a _ x
    unfold va_up az_nw
    grind
  · show h.2.1 + 4 = h.2.1 + 1 + 3
    omega
  · show h.2.2 + 40 = h.2.2 + 4 + 36
    omega
theorem S0_z {k : Nat} {i : Int} (h : k ≠ 17 ∧ k ≠ 21 ∧ k ≠ 22) : S0 k i = 0 := by
  unfold S0
  split
  · rw [if_neg h.1, if_neg (by omega)]
  · rfl
theorem S0_17 {i : Int} (h : 0 ≤ i ∧ i < 12) : S0 17 i = 5 := by
  unfold S0
  rw [if_pos h]
  rfl
theorem S0_21 {i : Int} (h : 0 ≤ i ∧ i < 12) : S0 21 i = -1 := by
  unfold S0
  rw [if_pos h]
  rfl
theorem S0_22 {i : Int} (h : 0 ≤ i ∧ i < 12) : S0 22 i = -1 := by
  unfold S0
  rw [if_pos h]
  rfl
theorem zg_ga {k : Nat} (h : k ≠ 17 ∧ k ≠ 21 ∧ k ≠ 22) : cz_ga S0 k = fun _ => 0 := by
  funext i
  unfold cz_ga
  rw [S0_z h]
  rfl
theorem zg_gr {k m : Nat} {o : Int} (h : k ≠ 17 ∧ k ≠ 21 ∧ k ≠ 22) : cz_gr S0 k m o = fun _ => 0 := by
  funext i
  unfold cz_gr
  rw [S0_z h]
  split <;> rfl
theorem zg_g5 : cz_g5 S0 = fun _ => 0 := by
  funext i
  unfold cz_g5
  rw [S0_z (by unfold cz_col; grind)]
  rfl
def g0_cd (a : Nat) : Nat → Nat := fun x => if a ≤ x ∧ x < a + 22 then x - a + 1 else 0
def g0_ad (a : Nat) : Nat → Nat := fun c => a + (c - 1)
theorem g0_hF (a : Nat) : ∀ c, 1 ≤ c → c < 23 → g0_cd a (g0_ad a c) = c ∧ ∀ x, g0_cd a x = c → x = g0_ad a c := by
  intro c h1 h2
  unfold g0_cd g0_ad
  refine ⟨?_, fun x h => ?_⟩
  · rw [if_pos (by omega)]
    omega
  · split at h <;> omega
def G0 (a : Nat) : cz_G := ⟨g0_cd a, g0_ad a, 64, fun _ => false, fun _ => false, g0_hF a⟩
theorem z32 : Int32.ofInt 0 = 0 := rfl
theorem z64 : Int64.ofInt 0 = 0 := rfl
set_option maxRecDepth 20000 in
set_option maxHeartbeats 1000000 in
theorem sg_61 {h : az_H} {b c d e : Nat} (l0 : lv 0 = some (.ref a)) (ha : h.1 a = az_ob 10 [.ref b, .ref c, .ref d, .ref e, .null, .null, .int 0, .int 0]) (hl : a < h.2.1) (hq : az_p109 (az_ex az_T (n + 2)) Q (75, lv, [], (va_up (va_up (va_up h.1 h.2.1 (az_ob 7 [.ref b, .ref c, .ref d, .ref e, .ref (h.2.1 + 1), .int 0])) (h.2.1 + 1) (az_ob 9 [.ref c, .ref d])) a (az_ob 10 [.ref b, .ref c, .ref d, .ref e, .ref h.2.1, .null, .int 0, .int 0]), h.2.1 + 2, h.2.2 + 8))) : az_p109 (az_ex az_T (n + 2)) Q (48, lv, [], h) := by
  have cl := fun K => cx_i61 (n := n) (K := K) (az_nw h (az_ob 7 (az_z 7)) 6) h.2.1 b c d e (va_eq ..) (Nat.lt_succ_self _)
  have e1 : (az_nw h (az_ob 7 (az_z 7)) 6).1 a = az_ob 10 [.ref b, .ref c, .ref d, .ref e, .null, .null, .int 0, .int 0] := by
    show va_up h.1 h.2.1 _ a = _
    rw [va_ne (by omega), ha]
  simp only [az_s109_48, l0, az_ma_r, az_s109_49, az_s109_52r, az_s109_53, az_s109_54, az_s109_57, az_s109_58, az_s109_61, az_s109_62, az_s109_65, az_s109_66, e1, rz_r10_0, rz_r10_1, rz_r10_2, rz_r10_3, az_s109_69, cl, List.nil_append]
  refine ⟨Nat.le_of_ble_eq_true rfl, ?_⟩
  rw [az_s109_72]
  refine sg_put (L := [.ref b, .ref c, .ref d, .ref e, .null, .null, .int 0, .int 0]) (by
    show va_up (va_up (va_up h.1 h.2.1 _) (h.2.1 + 1) _) h.2.1 _ a = _
    simp (disch := omega) only [va_ne, ha]) (Nat.le_of_ble_eq_true rfl) (K := fun x => az_p109 (az_ex az_T (n + 2)) Q (75, lv, [], x)) ?_
  refine cast (congrArg (fun x => az_p109 (az_ex az_T (n + 2)) Q (75, lv, [], x)) ?_) hq
  refine Prod.ext ?_ (Prod.ext rfl rfl)
  funext x
  show va_up (va_up (va_up h.1 h.2.1 _) (h.2.1 + 1) _) a _ x = va_up (va_up (va_up (va_up h.1 h.2.1 _) (h.2.1 + 1) _) h.2.1 _) a _ x
  unfold va_up
  by_cases q : x = a
  · rw [if_pos q, if_pos q]
    rfl
  · rw [if_neg q, if_neg q]
    by_cases q1 : x = h.2.1
    · rw [if_neg (by omega), if_pos q1, if_pos q1]
      rfl
    · rw [if_neg q1, if_neg q1, if_neg q1]
set_option maxRecDepth 20000 in
set_option maxHeartbeats 1000000 in
theorem cm_109 {m : Nat} (g : Nat → az_C) (n : Nat) (hg : g a = az_ob 10 (az_z 10)) : az_ex az_T (m + 3) 109 [.ref a] (g, a + 1, n) none (cz_H (G0 a) S0 g, a + 22, n + 1075) := by
  refine az_ex_eq (R := az_r109) rfl (Nat.le_of_ble_eq_true rfl) ?_
  show az_p109 _ _ _
  rw [az_s109_0]
  simp only [az_s109_1, Int.reduceEq, Int.reduceLT, Int.reduceLE, Int.reduceAdd, Int.reduceMul, Int.reduceSub, Int.reduceNeg, Int.add_zero, Int.zero_add, ge_iff_le, gt_iff_lt, az_mi_s, az_ml_s, az_ma_r, az_ma_n, az_s1_ap, az_s2_ap, az_nl_i, az_nl_r, az_nl_0, az_nl_e, az_nl_l, az_arg_ap, az_arg_e, Value.category, Option.toList, List.cons_append, List.nil_append, az_cat, reduceIte, Nat.reduceAdd, Nat.reduceEqDiff, Nat.reduceLeDiff, Nat.reduceSub, Nat.reduceLT, true_and, and_true, false_and, and_false, not_true_eq_false, not_false_eq_true, implies_true, true_implies, false_implies, and_self, eq_self, if_true, if_false, true_or, or_true, or_false, false_or, Nat.zero_add, Nat.add_zero, Nat.succ_ne_self, Nat.reduceBneDiff]
  have l0 : az_arg 0 [.ref a] 0 = some (.ref a) := rfl
  refine sg_12 (a := a) (L := az_z 10) l0 hg rfl (Nat.lt_succ_self _) ?_
  refine sg_37 (a := a) (L := [.ref (a + 1), .null, .null, .null, .null, .null, .int 0, .int 0]) l0 (va_eq ..) rfl (by show a < a + 1 + 3; omega) ?_
  refine sg_23 (a := a) (L := [.ref (a + 1), .ref (a + 4), .null, .null, .null, .null, .int 0, .int 0]) l0 (va_eq ..) rfl (by show a < a + 1 + 3 + 5; omega) ?_
  refine sg_8 (a := a) (L := [.ref (a + 1), .ref (a + 4), .ref (a + 9), .null, .null, .null, .int 0, .int 0]) l0 (va_eq ..) rfl (by show a < a + 1 + 3 + 5 + 3; omega) ?_
  refine sg_61 (a := a) (b := a + 1) (c := a + 4) (d := a + 9) (e := a + 12) l0 (va_eq ..) (by show a < a + 1 + 3 + 5 + 3 + 4; omega) ?_
  refine sg_53 (a := a) (L := [.ref (a + 1), .ref (a + 4), .ref (a + 9), .ref (a + 12), .ref (a + 16), .null, .int 0, .int 0]) l0 (va_eq ..) rfl (by show a < a + 1 + 3 + 5 + 3 + 4 + 2; omega) ?_
  rw [az_s109_86]
  refine ⟨rfl, Prod.ext ?_ (Prod.ext rfl ?_)⟩
  · funext x
    dsimp only
    simp only [Nat.add_assoc, Nat.reduceAdd]
    by_cases hx : a ≤ x ∧ x < a + 22
    · obtain ⟨k, rfl⟩ : ∃ k, x = a + k := ⟨x - a, by omega⟩
      have hk : k < 22 := by omega
      have ok : ∀ c, 1 ≤ c → c < 23 → cz_H (G0 a) S0 g ((G0 a).ad c) = cz_c (G0 a) S0 c := fun c h1 h2 => cz_H_at (by omega) (cz_okF c h1 h2)
      match k, hk with
      | 0, _ =>
        refine Eq.trans ?_ (ok 1 (by decide) (by decide)).symm
        show va_up _ a _ a = _
        rw [va_eq]
        show az_ob _ _ = az_ob _ (cz_f1 (G0 a) S0)
        unfold cz_f1
        rw [S0_z (k := 0) (by decide), S0_z (k := 1) (by decide)]
        rfl
      | 1, _ =>
        refine Eq.trans ?_ (ok 2 (by decide) (by decide)).symm
        simp (disch := omega) only [va_eq, va_ne]
        show az_ob _ _ = az_ob _ (cz_f2 (G0 a) S0)
        unfold cz_f2
        rw [S0_z (k := 100) (by decide)]
        rfl
      | 2, _ =>
        refine Eq.trans ?_ (ok 3 (by decide) (by decide)).symm
        simp (disch := omega) only [va_eq, va_ne]
        rfl
      | 3, _ =>
        refine Eq.trans ?_ (ok 4 (by decide) (by decide)).symm
        simp (disch := omega) only [va_eq, va_ne]
        rfl
      | 4, _ =>
        refine Eq.trans ?_ (ok 5 (by decide) (by decide)).symm
        simp (disch := omega) only [va_eq, va_ne]
        show az_ob _ _ = az_ob _ (cz_f5 (G0 a) S0)
        unfold cz_f5
        rw [S0_z (k := 33) (by decide)]
        rfl
      | 5, _ =>
        refine Eq.trans ?_ (ok 6 (by decide) (by decide)).symm
        simp (disch := omega) only [va_eq, va_ne]
        show _ = az_ia 0 _ (cz_gr S0 34 _ 0)
        rw [zg_gr (by decide)]
        rfl
      | 6, _ =>
        refine Eq.trans ?_ (ok 7 (by decide) (by decide)).symm
        simp (disch := omega) only [va_eq, va_ne]
        show _ = az_ia 0 _ (cz_gr S0 35 _ 0)
        rw [zg_gr (by decide)]
        rfl
      | 7, _ =>
        refine Eq.trans ?_ (ok 8 (by decide) (by decide)).symm
        simp (disch := omega) only [va_eq, va_ne]
        show _ = az_ia 0 _ (cz_gr S0 36 _ 0)
        rw [zg_gr (by decide)]
        rfl
      | 8, _ =>
        refine Eq.trans ?_ (ok 9 (by decide) (by decide)).symm
        simp (disch := omega) only [va_eq, va_ne]
        show _ = az_ia 0 _ (cz_gr S0 37 _ 0)
        rw [zg_gr (by decide)]
        rfl
      | 9, _ =>
        refine Eq.trans ?_ (ok 10 (by decide) (by decide)).symm
        simp (disch := omega) only [va_eq, va_ne]
        show az_ob _ _ = az_ob _ (cz_f10 (G0 a) S0)
        unfold cz_f10
        rw [S0_z (k := 43) (by decide), S0_z (k := 48) (by decide), S0_z (k := 49) (by decide), S0_z (k := 50) (by decide), S0_z (k := 51) (by decide), S0_z (k := 52) (by decide)]
        rfl
      | 10, _ =>
        refine Eq.trans ?_ (ok 11 (by decide) (by decide)).symm
        simp (disch := omega) only [va_eq, va_ne]
        show _ = az_ia 0 _ (cz_ga S0 53)
        rw [zg_ga (by decide)]
        rfl
      | 11, _ =>
        refine Eq.trans ?_ (ok 12 (by decide) (by decide)).symm
        simp (disch := omega) only [va_eq, va_ne]
        show _ = az_ia 0 400 (cz_g5 S0)
        rw [zg_g5]
        rfl
      | 12, _ =>
        refine Eq.trans ?_ (ok 13 (by decide) (by decide)).symm
        simp (disch := omega) only [va_eq, va_ne]
        show az_ob _ _ = az_ob _ (cz_f13 (G0 a) S0)
        unfold cz_f13
        rw [S0_z (k := 38) (by decide), S0_z (k := 102) (by decide)]
        rfl
      | 13, _ =>
        refine Eq.trans ?_ (ok 14 (by decide) (by decide)).symm
        simp (disch := omega) only [va_eq, va_ne]
        show _ = az_ia 0 _ (cz_ga S0 39)
        rw [zg_ga (by decide)]
        rfl
      | 14, _ =>
        refine Eq.trans ?_ (ok 15 (by decide) (by decide)).symm
        simp (disch := omega) only [va_eq, va_ne]
        show _ = az_ia 0 _ (cz_ga S0 40)
        rw [zg_ga (by decide)]
        rfl
      | 15, _ =>
        refine Eq.trans ?_ (ok 16 (by decide) (by decide)).symm
        simp (disch := omega) only [va_eq, va_ne]
        show _ = az_ia 0 _ (cz_ga S0 41)
        rw [zg_ga (by decide)]
        rfl
      | 16, _ =>
        refine Eq.trans ?_ (ok 17 (by decide) (by decide)).symm
        simp (disch := omega) only [va_eq, va_ne]
        show az_ob _ _ = az_ob _ (cz_f17 (G0 a) S0)
        unfold cz_f17
        rw [S0_z (k := 2) (by decide)]
        rfl
      | 17, _ =>
        refine Eq.trans ?_ (ok 18 (by decide) (by decide)).symm
        simp (disch := omega) only [va_eq, va_ne]
        show az_ob _ _ = az_ob _ (cz_f18 (G0 a) S0)
        unfold cz_f18
        rfl
      | 18, _ =>
        refine Eq.trans ?_ (ok 19 (by decide) (by decide)).symm
        simp (disch := omega) only [va_eq, va_ne]
        show az_ob _ _ = az_ob _ (cz_f19 (G0 a) S0)
        unfold cz_f19
        rw [S0_z (k := 106) (by decide)]
        rfl
      | 19, _ =>
        refine Eq.trans ?_ (ok 20 (by decide) (by decide)).symm
        simp (disch := omega) only [va_eq, va_ne]
        show _ = az_ia 0 _ (cz_ga S0 103)
        rw [zg_ga (by decide)]
        rfl
      | 20, _ =>
        refine Eq.trans ?_ (ok 21 (by decide) (by decide)).symm
        simp (disch := omega) only [va_eq, va_ne]
        show _ = az_ia 0 _ (cz_ga S0 104)
        rw [zg_ga (by decide)]
        rfl
      | 21, _ =>
        refine Eq.trans ?_ (ok 22 (by decide) (by decide)).symm
        simp (disch := omega) only [va_eq, va_ne]
        show _ = az_ia 0 _ (cz_ga S0 105)
        rw [zg_ga (by decide)]
        rfl
      | k + 22, hk => exact absurd hk (by omega)
    · have e : cz_H (G0 a) S0 g x = g x := by
        exact if_pos (show (G0 a).cd x = 0 from if_neg hx)
      rw [e]
      simp (disch := omega) only [va_ne]
  · show n + 31 + 453 + 418 + 125 + 8 + 40 = n + 1075
    omega
end UC
