-- deps: 30.mK 31.mL 32.mM 34.mN 37.mQ 38.mR 39.mS 43.cls 44.sta 44.stb 44.stc 44.std 45.cA 46.cB 47.cC 48.cD 49.cE 50.cF 54.cI 55.cJ 58.cM 59.cN 43.raw 51.cG 53.cH 56.cK 57.cL 52.cG2 60.cO 61.cP 62.cQ 64.iA 65.iB 66.iC 67.iD 68.iE 69.iF 70.iG 71.iH 72.iI 73.iJ 74.iK 75.iL 76.iM 77.iN 79.iR 80.iS 81.iT 82.iU 83.iV 84.iW 85.iX 86.bA 87.bB 88.bC 34.mN2 34.mN3 35.mO 36.mP 33.mM2 40.mT 41.mU 42.mV 89.bD 90.rA 91.rB 92.rC 93.rD 94.rE 95.rF 96.rG 97.rH 98.rI 99.rJ 99.sA 99.sB 99.sC 99.sD 99.tA 99.tB 99.tC 99.tD 99.tE 99.uyS 99.uA 99.uB 99.uC 99.uD 99.vA 99.vB0 99.vB1 99.vB2 99.vB3
/-! ===== the law: its loop, from its first instruction to its end ===== -/
section VC
variable {C : az_Cl} {X : Nat → Option az_C} {Q : Option Value → az_H → Prop} {lv : az_L} {x0 r b L : Nat} {A B i : Int} {F : Nat} {h : az_H} {xs : Int → Int32}
theorem rd_0 (hX : X b = some (az_ia 0 L xs)) (hL : L ≤ 3072) (hi : 0 ≤ i ∧ i + 6 ≤ L) {c : az_C} {K : Int32 → Prop} : az_mr ((X b).getD c) 0 (Int32.ofInt i).toInt K = K (xs i) := by
  rw [hX, az_toInt (by omega) (by omega)]
  exact propext ⟨fun q => q.2, fun q => ⟨⟨rfl, by omega, by omega⟩, q⟩⟩
theorem lw_sw (hX : X b = some (az_ia 0 L xs)) (hL : L ≤ 3072) (l0 : lv 0 = some (.ref b)) (l1 : lv 1 = some (.ref x0)) (l2 : lv 2 = some (.ref r)) (l3 : lv 3 = some (.int (Int32.ofInt i))) (hi : 0 ≤ i ∧ i + 6 ≤ L) (hh : LH x0 r A B F h) (hF : F + 1 ≤ 512) (K : ∀ (F1 : Nat) (h1 : az_H), F1 ≤ F + 1 → LH x0 r A B F1 h1 → az_pL (az_ex az_T 8) X Q (836, lv, [], h1)) : az_pL (az_ex az_T 8) X Q (27, lv, [], h) := by
  rw [az_sL_27, l0, az_ma_r, az_sL_28, l3, az_mi_s, az_sL_29, rd_0 hX hL hi, az_sL_30, az_sL_32, az_sL_33]
  generalize (xs i &&& Int32.ofInt 31).toInt = t
  exact ⟨fun _ => lc_bin hX hL l0 l1 l2 l3 hi hh K, fun _ => ⟨fun _ => lc_stage hX hL l0 l1 l2 l3 hi hh K, fun _ => ⟨fun _ => lc_from hX hL l0 l1 l2 l3 hi hh K, fun _ => ⟨fun _ => lc_to hX hL l0 l1 l2 l3 hi hh K, fun _ => ⟨fun _ => lc_stands hX hL l0 l1 l2 l3 hi hh K, fun _ => ⟨fun _ => lc_feed hX hL l0 l1 l2 l3 hi hh hF K, fun _ => ⟨fun _ => lc_plan hX hL l0 l1 l2 l3 hi hh K, fun _ => ⟨fun _ => lc_rule hX hL l0 l1 l2 l3 hi hh K, fun _ => ⟨fun _ => lc_beat hX hL l0 l1 l2 l3 hi hh K, fun _ => ⟨fun _ => lc_command hX hL l0 l1 l2 l3 hi hh K, fun _ => ⟨fun _ => lc_divert hX hL l0 l1 l2 l3 hi hh K, fun _ => ⟨fun _ => lc_state hX hL l0 l1 l2 l3 hi hh K, fun _ => ⟨fun _ => lc_in hX hL l0 l1 l2 l3 hi hh K, fun _ => ⟨fun _ => lc_level hX hL l0 l1 l2 l3 hi hh K, fun _ => ⟨fun _ => lc_part hX hL l0 l1 l2 l3 hi hh K, fun _ => ⟨fun _ => lc_sacks hX hL l0 l1 l2 l3 hi hh K, fun _ => ⟨fun _ => lc_aside hX hL l0 l1 l2 l3 hi hh K, fun _ => ⟨fun _ => lc_total hX hL l0 l1 l2 l3 hi hh K, fun _ => ⟨fun _ => lc_quiet hX hL l0 l1 l2 l3 hi hh K, fun _ => ⟨fun _ => lc_ring hX hL l0 l1 l2 l3 hi hh K, fun _ => ⟨fun _ => lc_count hX hL l0 l1 l2 l3 hi hh K, fun _ => K F h (by omega) hh⟩⟩⟩⟩⟩⟩⟩⟩⟩⟩⟩⟩⟩⟩⟩⟩⟩⟩⟩⟩⟩
theorem lw_hd (hX : X b = some (az_ia 0 L xs)) (hL : L ≤ 3072) (l0 : lv 0 = some (.ref b)) (l3 : lv 3 = some (.int (Int32.ofInt i))) (hi : 0 ≤ i ∧ i < 10000) : az_pL (az_ex az_T 8) X Q (18, lv, [], h) ↔ (((L : Int) - 6 < i → az_pL (az_ex az_T 8) X Q (842, lv, [], h)) ∧ (¬ (L : Int) - 6 < i → az_pL (az_ex az_T 8) X Q (27, lv, [], h))) := by
  rw [az_sL_18, l3, az_mi_s, az_sL_19, l0, az_ma_r, az_sL_20, hX]
  show az_pL (az_ex az_T 8) X Q (21, lv, .int (Int32.ofNat L) :: .int (Int32.ofInt i) :: [], h) ↔ _
  rw [az_sL_21, az_sL_23, az_sL_24, ← Int32.ofInt_eq_ofNat, az_sub, az_lt (by omega) (by omega) (by omega) (by omega)]
theorem lw_loop (hX : X b = some (az_ia 0 L xs)) (hL : L ≤ 3072) (hQ : ∀ (F : Nat) (h : az_H), LH x0 r A B F h → Q (some (.int (Int32.ofInt 1))) h) : ∀ (d k F : Nat) (lv : az_L) (h : az_H), L < 6 * (k + d) → F ≤ k → k ≤ 600 → lv 0 = some (.ref b) → lv 1 = some (.ref x0) → lv 2 = some (.ref r) → lv 3 = some (.int (Int32.ofInt (6 * (k : Int)))) → LH x0 r A B F h → az_pL (az_ex az_T 8) X Q (18, lv, [], h) := by
  intro d
  induction d with
  | zero =>
    intro k F lv h hd hF hk l0 l1 l2 l3 hh
    rw [lw_hd hX hL l0 l3 (by omega)]
    refine ⟨fun _ => ?_, fun q => absurd q (by omega)⟩
    rw [az_sL_842, az_sL_843]
    exact ⟨Or.inr rfl, hQ F h hh⟩
  | succ d ih =>
    intro k F lv h hd hF hk l0 l1 l2 l3 hh
    rw [lw_hd hX hL l0 l3 (by omega)]
    refine ⟨fun _ => ?_, fun q => ?_⟩
    · rw [az_sL_842, az_sL_843]
      exact ⟨Or.inr rfl, hQ F h hh⟩
    · refine lw_sw hX hL l0 l1 l2 l3 (by omega) hh (by omega) (fun F1 h1 e1 e2 => ?_)
      rw [az_sL_836, l3, az_mi_s, az_sL_839]
      refine ih (k + 1) F1 _ h1 (by omega) (by omega) (by omega) ?_ ?_ ?_ ?_ e2
      · exact l0
      · exact l1
      · show az_nl (lv 2) = _
        rw [l2]
        rfl
      · show some (Value.int (Int32.ofInt (6 * (k : Int)) + Int32.ofInt 6)) = _
        rw [az_add, show 6 * (k : Int) + 6 = 6 * ((k + 1 : Nat) : Int) by omega]
theorem RH_up {S : az_M} {g : Nat → az_C} {c : az_C} : az_RH r S (va_up g r c) = az_RH r S g := by
  funext x
  unfold az_RH va_up
  split
  · rfl
  · rw [if_neg (by omega)]
/-- the law, on its empty heap -/
theorem lw_go {base : Nat} (hX : X b = some (az_ia 0 L xs)) (hL : L ≤ 3072) (hQ : ∀ (F : Nat) (h : az_H), LH base (base + 22) ((base + 67 : Nat) : Int) ((19484 : Nat) : Int) F h → Q (some (.int (Int32.ofInt 1))) h) : az_pL (az_ex az_T 8) X Q (0, az_arg 0 [.ref b], [], (fun _ => az_dd, base, 0)) := by
  rw [az_sL_0, az_sL_3r, az_sL_4]
  refine ⟨Nat.le_of_ble_eq_true rfl, ?_⟩
  have c1 := cm_109 (a := base) (m := 5) (va_up (fun _ => az_dd) base (az_ob 10 (az_z 10))) 8 (va_eq ..)
  have d1 : ∀ K, az_mc (az_ex az_T 8) 109 [.ref base] (az_nw (fun _ => az_dd, base, 0) (az_ob 10 (az_z 10)) 8) K = K [] _ := fun K => az_mc_eq (K := K) c1
  show az_mc (az_ex az_T 8) 109 [.ref base] (az_nw (fun _ => az_dd, base, 0) (az_ob 10 (az_z 10)) 8) _
  rw [d1]
  show az_pL (az_ex az_T 8) X Q (7, az_arg 0 [.ref b], [.ref base], _)
  rw [az_sL_7, az_sL_8, az_sL_11r, az_sL_12]
  refine ⟨Nat.le_of_ble_eq_true rfl, ?_⟩
  have c2 := cm_refInit (r := base + 22) (n := 8 + 1075 + 55) (m := 7) (g := va_up (cz_H (G0 base) S0 (va_up (fun _ => az_dd) base (az_ob 10 (az_z 10)))) (base + 22) (az_ob 11 (az_z 11))) (va_eq ..)
  have d2 : ∀ K, az_mc (az_ex az_T 8) 133 [.ref (base + 22)] (az_nw (cz_H (G0 base) S0 (va_up (fun _ => az_dd) base (az_ob 10 (az_z 10))), base + 22, 8 + 1075) (az_ob 11 (az_z 11)) 55) K = K [] _ := fun K => az_mc_eq (K := K) c2
  show az_mc (az_ex az_T 8) 133 [.ref (base + 22)] (az_nw (cz_H (G0 base) S0 (va_up (fun _ => az_dd) base (az_ob 10 (az_z 10))), base + 22, 8 + 1075) (az_ob 11 (az_z 11)) 55) _
  rw [d2]
  show az_pL (az_ex az_T 8) X Q (15, _, [.ref (base + 22)], _)
  rw [az_sL_15, az_sL_16, az_sL_17]
  refine lw_loop hX hL hQ 513 0 0 _ _ (by omega) (by omega) (by omega) rfl rfl rfl rfl ?_
  refine ⟨S0, G0 base, az_RH (base + 22) S0 (va_up (fun _ => az_dd) base (az_ob 10 (az_z 10))), (base + 67, 19484), ?_, G0_LI rfl, rfl, RH_RH⟩
  refine Prod.ext ?_ (Prod.ext ?_ ?_)
  · show az_RH (base + 22) S0 (va_up (cz_H (G0 base) S0 _) (base + 22) _) = cz_H (G0 base) S0 (az_RH (base + 22) S0 _)
    rw [RH_up, two_h (G := G0 base) (fun x h1 _ => (show (G0 base).cd x = 0 from g0_out h1))]
  · show base + 22 + 45 = base + 67
    omega
  · rfl
theorem k1_b {n : Nat} : cz_k1 n ≤ 20 := by
  unfold cz_k1
  repeat' split
  all_goals omega
theorem k2_b {n : Nat} : cz_k2 n ≤ 23940 := by
  unfold cz_k2
  split <;> omega
theorem LH_room {c d : Nat} (hh : LH x0 r (c : Int) (d : Int) F h) : h.2.1 ≤ c + 148 ∧ h.2.2 ≤ d + 25000 := by
  obtain ⟨S, G, f, z, rfl, hL, -, -⟩ := hh
  have h1 := hL.ro
  unfold rz at h1
  have h2 := nbG_b (G := G)
  have h3 := nsG_b (G := G)
  have h4 := k1_b (n := G.len)
  have h5 := k2_b (n := G.len)
  show z.1 ≤ _ ∧ z.2 ≤ _
  omega
end VC
