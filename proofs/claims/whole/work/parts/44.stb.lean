-- deps:
section AzStC1
variable {C : az_Cl} {Q : Option Value → az_H → Prop} {lv : az_L} {st : List Value} {h : az_H}
def az_p42 (C : az_Cl) (Q : Option Value → az_H → Prop) : az_S → Prop := az_wp C (fun _ => none) (some .int) (az_fn az_k42) Q
theorem az_s42_0 : az_p42 C Q (0, lv, st, h) ↔ az_ma (lv 0) (fun x => az_p42 C Q (1, lv, x :: st, h)) := az_wp_iff.trans az_go_lda
theorem az_s42_1 : az_p42 C Q (1, lv, st, h) ↔ az_mi (lv 1) (fun x => az_p42 C Q (2, lv, .int x :: st, h)) := az_wp_iff.trans az_go_ldi
theorem az_s42_2 {a : Nat} {v1 : Value} : az_p42 C Q (2, lv, v1 :: .ref a :: st, h) ↔ az_isob (h.1 a) 5 = true ∧ az_cat st ≤ 8 ∧ az_mc C 38 [.ref a, v1] h (fun v h' => az_p42 C Q (5, lv, v ++ st, h')) := az_wp_iff.trans (az_go_if.trans (and_congr Iff.rfl az_go_call))
theorem az_s42_5 {x : Int32} : az_p42 C Q (5, lv, .int x :: st, h) ↔ (x = 0 → az_p42 C Q (17, lv, st, h)) ∧ (¬ x = 0 → az_p42 C Q (8, lv, st, h)) := az_wp_iff.trans (az_go_if1 az_d_eq)
theorem az_s42_8 : az_p42 C Q (8, lv, st, h) ↔ az_ma (lv 0) (fun x => az_p42 C Q (9, lv, x :: st, h)) := az_wp_iff.trans az_go_lda
theorem az_s42_9 {a : Nat} : az_p42 C Q (9, lv, .ref a :: st, h) ↔ az_mf (h.1 a) 5 3 (fun v => az_p42 C Q (12, lv, v :: st, h)) := az_wp_iff.trans az_go_gf
theorem az_s42_12 : az_p42 C Q (12, lv, st, h) ↔ az_mi (lv 1) (fun x => az_p42 C Q (13, lv, .int x :: st, h)) := az_wp_iff.trans az_go_ldi
theorem az_s42_13 {a : Nat} {i : Int32} : az_p42 C Q (13, lv, .int i :: .ref a :: st, h) ↔ az_mr (h.1 a) 0 i.toInt (fun x => az_p42 C Q (14, lv, .int x :: st, h)) := az_wp_iff.trans az_go_ial
theorem az_s42_14 : az_p42 C Q (14, lv, st, h) ↔ az_p42 C Q (18, lv, st, h) := az_wp_iff
theorem az_s42_17 : az_p42 C Q (17, lv, st, h) ↔ az_p42 C Q (18, lv, .int (Int32.ofInt (0)) :: st, h) := az_wp_iff
theorem az_s42_18 {x : Int32} : az_p42 C Q (18, lv, [.int x], h) ↔ Q (some (.int x)) h := az_wp_iff
def az_p43 (C : az_Cl) (Q : Option Value → az_H → Prop) : az_S → Prop := az_wp C (fun _ => none) (some .int) (az_fn az_k43) Q
theorem az_s43_0 : az_p43 C Q (0, lv, st, h) ↔ az_ma (lv 0) (fun x => az_p43 C Q (1, lv, x :: st, h)) := az_wp_iff.trans az_go_lda
theorem az_s43_1 : az_p43 C Q (1, lv, st, h) ↔ az_mi (lv 1) (fun x => az_p43 C Q (2, lv, .int x :: st, h)) := az_wp_iff.trans az_go_ldi
theorem az_s43_2 {a : Nat} {v1 : Value} : az_p43 C Q (2, lv, v1 :: .ref a :: st, h) ↔ az_isob (h.1 a) 5 = true ∧ az_cat st ≤ 8 ∧ az_mc C 38 [.ref a, v1] h (fun v h' => az_p43 C Q (5, lv, v ++ st, h')) := az_wp_iff.trans (az_go_if.trans (and_congr Iff.rfl az_go_call))
theorem az_s43_5 {x : Int32} : az_p43 C Q (5, lv, .int x :: st, h) ↔ (x = 0 → az_p43 C Q (30, lv, st, h)) ∧ (¬ x = 0 → az_p43 C Q (8, lv, st, h)) := az_wp_iff.trans (az_go_if1 az_d_eq)
theorem az_s43_8 : az_p43 C Q (8, lv, st, h) ↔ az_mi (lv 2) (fun x => az_p43 C Q (9, lv, .int x :: st, h)) := az_wp_iff.trans az_go_ldi
theorem az_s43_9 : az_p43 C Q (9, lv, st, h) ↔ az_p43 C Q (10, lv, .int (Int32.ofInt (0)) :: st, h) := az_wp_iff
theorem az_s43_10 : az_p43 C Q (10, lv, st, h) ↔ az_p43 C Q (11, lv, .int (Int32.ofInt (3)) :: st, h) := az_wp_iff
theorem az_s43_11 {v1 v2 v3 : Value} : az_p43 C Q (11, lv, v3 :: v2 :: v1 :: st, h) ↔ az_cat st ≤ 8 ∧ az_mc C 132 [v1, v2, v3] h (fun v h' => az_p43 C Q (14, lv, v ++ st, h')) := az_wp_iff.trans az_go_call
theorem az_s43_14 {x : Int32} : az_p43 C Q (14, lv, .int x :: st, h) ↔ (x = 0 → az_p43 C Q (30, lv, st, h)) ∧ (¬ x = 0 → az_p43 C Q (17, lv, st, h)) := az_wp_iff.trans (az_go_if1 az_d_eq)
theorem az_s43_17 : az_p43 C Q (17, lv, st, h) ↔ az_ma (lv 0) (fun x => az_p43 C Q (18, lv, x :: st, h)) := az_wp_iff.trans az_go_lda
theorem az_s43_18 {a : Nat} : az_p43 C Q (18, lv, .ref a :: st, h) ↔ az_mf (h.1 a) 5 4 (fun v => az_p43 C Q (21, lv, v :: st, h)) := az_wp_iff.trans az_go_gf
theorem az_s43_21 : az_p43 C Q (21, lv, st, h) ↔ az_mi (lv 1) (fun x => az_p43 C Q (22, lv, .int x :: st, h)) := az_wp_iff.trans az_go_ldi
theorem az_s43_22 : az_p43 C Q (22, lv, st, h) ↔ az_p43 C Q (23, lv, .int (Int32.ofInt (4)) :: st, h) := az_wp_iff
theorem az_s43_23 {x y : Int32} : az_p43 C Q (23, lv, .int y :: .int x :: st, h) ↔ az_p43 C Q (24, lv, .int (x * y) :: st, h) := az_wp_iff
theorem az_s43_24 : az_p43 C Q (24, lv, st, h) ↔ az_mi (lv 2) (fun x => az_p43 C Q (25, lv, .int x :: st, h)) := az_wp_iff.trans az_go_ldi
theorem az_s43_25 {x y : Int32} : az_p43 C Q (25, lv, .int y :: .int x :: st, h) ↔ az_p43 C Q (26, lv, .int (x + y) :: st, h) := az_wp_iff
theorem az_s43_26 {a : Nat} {i : Int32} : az_p43 C Q (26, lv, .int i :: .ref a :: st, h) ↔ az_mr (h.1 a) 0 i.toInt (fun x => az_p43 C Q (27, lv, .int x :: st, h)) := az_wp_iff.trans az_go_ial
theorem az_s43_27 : az_p43 C Q (27, lv, st, h) ↔ az_p43 C Q (31, lv, st, h) := az_wp_iff
theorem az_s43_30 : az_p43 C Q (30, lv, st, h) ↔ az_p43 C Q (31, lv, .int (Int32.ofInt (0)) :: st, h) := az_wp_iff
theorem az_s43_31 {x : Int32} : az_p43 C Q (31, lv, [.int x], h) ↔ Q (some (.int x)) h := az_wp_iff
def az_p44 (C : az_Cl) (Q : Option Value → az_H → Prop) : az_S → Prop := az_wp C (fun _ => none) none (az_fn az_k44) Q
theorem az_s44_0 : az_p44 C Q (0, lv, st, h) ↔ az_ma (lv 0) (fun x => az_p44 C Q (1, lv, x :: st, h)) := az_wp_iff.trans az_go_lda
theorem az_s44_1 : az_p44 C Q (1, lv, st, h) ↔ az_mi (lv 1) (fun x => az_p44 C Q (2, lv, .int x :: st, h)) := az_wp_iff.trans az_go_ldi
theorem az_s44_2 {a : Nat} {v1 : Value} : az_p44 C Q (2, lv, v1 :: .ref a :: st, h) ↔ az_isob (h.1 a) 5 = true ∧ az_cat st ≤ 8 ∧ az_mc C 38 [.ref a, v1] h (fun v h' => az_p44 C Q (5, lv, v ++ st, h')) := az_wp_iff.trans (az_go_if.trans (and_congr Iff.rfl az_go_call))
theorem az_s44_5 {x : Int32} : az_p44 C Q (5, lv, .int x :: st, h) ↔ (x = 0 → az_p44 C Q (16, lv, st, h)) ∧ (¬ x = 0 → az_p44 C Q (8, lv, st, h)) := az_wp_iff.trans (az_go_if1 az_d_eq)
theorem az_s44_8 : az_p44 C Q (8, lv, st, h) ↔ az_ma (lv 0) (fun x => az_p44 C Q (9, lv, x :: st, h)) := az_wp_iff.trans az_go_lda
theorem az_s44_9 {a : Nat} : az_p44 C Q (9, lv, .ref a :: st, h) ↔ az_mf (h.1 a) 5 1 (fun v => az_p44 C Q (12, lv, v :: st, h)) := az_wp_iff.trans az_go_gf
theorem az_s44_12 : az_p44 C Q (12, lv, st, h) ↔ az_mi (lv 1) (fun x => az_p44 C Q (13, lv, .int x :: st, h)) := az_wp_iff.trans az_go_ldi
theorem az_s44_13 : az_p44 C Q (13, lv, st, h) ↔ az_ml (lv 2) (fun x => az_p44 C Q (14, lv, .long x :: st, h)) := az_wp_iff.trans az_go_ldl
theorem az_s44_14 {x : Int64} : az_p44 C Q (14, lv, .long x :: st, h) ↔ az_p44 C Q (15, lv, .int x.toInt32 :: st, h) := az_wp_iff
theorem az_s44_15 {a : Nat} {i x : Int32} : az_p44 C Q (15, lv, .int x :: .int i :: .ref a :: st, h) ↔ az_mw' (h.1 a) i.toInt x (fun c => az_p44 C Q (16, lv, st, az_uh h a c)) := az_wp_iff.trans az_go_ias
theorem az_s44_16 : az_p44 C Q (16, lv, [], h) ↔ Q none h := az_wp_iff
def az_p45 (C : az_Cl) (Q : Option Value → az_H → Prop) : az_S → Prop := az_wp C (fun _ => none) none (az_fn az_k45) Q
theorem az_s45_0 : az_p45 C Q (0, lv, st, h) ↔ az_ma (lv 0) (fun x => az_p45 C Q (1, lv, x :: st, h)) := az_wp_iff.trans az_go_lda
theorem az_s45_1 : az_p45 C Q (1, lv, st, h) ↔ az_mi (lv 1) (fun x => az_p45 C Q (2, lv, .int x :: st, h)) := az_wp_iff.trans az_go_ldi
theorem az_s45_2 {a : Nat} {v1 : Value} : az_p45 C Q (2, lv, v1 :: .ref a :: st, h) ↔ az_isob (h.1 a) 5 = true ∧ az_cat st ≤ 8 ∧ az_mc C 38 [.ref a, v1] h (fun v h' => az_p45 C Q (5, lv, v ++ st, h')) := az_wp_iff.trans (az_go_if.trans (and_congr Iff.rfl az_go_call))
theorem az_s45_5 {x : Int32} : az_p45 C Q (5, lv, .int x :: st, h) ↔ (x = 0 → az_p45 C Q (15, lv, st, h)) ∧ (¬ x = 0 → az_p45 C Q (8, lv, st, h)) := az_wp_iff.trans (az_go_if1 az_d_eq)
theorem az_s45_8 : az_p45 C Q (8, lv, st, h) ↔ az_ma (lv 0) (fun x => az_p45 C Q (9, lv, x :: st, h)) := az_wp_iff.trans az_go_lda
theorem az_s45_9 {a : Nat} : az_p45 C Q (9, lv, .ref a :: st, h) ↔ az_mf (h.1 a) 5 3 (fun v => az_p45 C Q (12, lv, v :: st, h)) := az_wp_iff.trans az_go_gf
theorem az_s45_12 : az_p45 C Q (12, lv, st, h) ↔ az_mi (lv 1) (fun x => az_p45 C Q (13, lv, .int x :: st, h)) := az_wp_iff.trans az_go_ldi
theorem az_s45_13 : az_p45 C Q (13, lv, st, h) ↔ az_mi (lv 2) (fun x => az_p45 C Q (14, lv, .int x :: st, h)) := az_wp_iff.trans az_go_ldi
theorem az_s45_14 {a : Nat} {i x : Int32} : az_p45 C Q (14, lv, .int x :: .int i :: .ref a :: st, h) ↔ az_mw' (h.1 a) i.toInt x (fun c => az_p45 C Q (15, lv, st, az_uh h a c)) := az_wp_iff.trans az_go_ias
theorem az_s45_15 : az_p45 C Q (15, lv, [], h) ↔ Q none h := az_wp_iff
def az_p46 (C : az_Cl) (Q : Option Value → az_H → Prop) : az_S → Prop := az_wp C (fun _ => none) (some .int) (az_fn az_k46) Q
theorem az_s46_0 : az_p46 C Q (0, lv, st, h) ↔ az_ma (lv 0) (fun x => az_p46 C Q (1, lv, x :: st, h)) := az_wp_iff.trans az_go_lda
theorem az_s46_1 : az_p46 C Q (1, lv, st, h) ↔ az_mi (lv 1) (fun x => az_p46 C Q (2, lv, .int x :: st, h)) := az_wp_iff.trans az_go_ldi
theorem az_s46_2 : az_p46 C Q (2, lv, st, h) ↔ az_mi (lv 2) (fun x => az_p46 C Q (3, lv, .int x :: st, h)) := az_wp_iff.trans az_go_ldi
theorem az_s46_3 : az_p46 C Q (3, lv, st, h) ↔ az_mi (lv 3) (fun x => az_p46 C Q (4, lv, .int x :: st, h)) := az_wp_iff.trans az_go_ldi
theorem az_s46_4 {a : Nat} {v1 v2 v3 : Value} : az_p46 C Q (4, lv, v3 :: v2 :: v1 :: .ref a :: st, h) ↔ az_isob (h.1 a) 5 = true ∧ az_cat st ≤ 8 ∧ az_mc C 48 [.ref a, v1, v2, v3] h (fun v h' => az_p46 C Q (7, lv, v ++ st, h')) := az_wp_iff.trans (az_go_if.trans (and_congr Iff.rfl az_go_call))
theorem az_s46_7 {x : Int32} : az_p46 C Q (7, lv, .int x :: st, h) ↔ az_p46 C Q (9, (az_s1 lv 5 (.int x)), st, h) := az_wp_iff
theorem az_s46_9 : az_p46 C Q (9, lv, st, h) ↔ az_ma (lv 0) (fun x => az_p46 C Q (10, lv, x :: st, h)) := az_wp_iff.trans az_go_lda
theorem az_s46_10 : az_p46 C Q (10, lv, st, h) ↔ az_mi (lv 5) (fun x => az_p46 C Q (12, lv, .int x :: st, h)) := az_wp_iff.trans az_go_ldi
theorem az_s46_12 {a : Nat} {v1 : Value} : az_p46 C Q (12, lv, v1 :: .ref a :: st, h) ↔ az_isob (h.1 a) 5 = true ∧ az_cat st ≤ 8 ∧ az_mc C 38 [.ref a, v1] h (fun v h' => az_p46 C Q (15, lv, v ++ st, h')) := az_wp_iff.trans (az_go_if.trans (and_congr Iff.rfl az_go_call))
theorem az_s46_15 {x : Int32} : az_p46 C Q (15, lv, .int x :: st, h) ↔ (x = 0 → az_p46 C Q (42, lv, st, h)) ∧ (¬ x = 0 → az_p46 C Q (18, lv, st, h)) := az_wp_iff.trans (az_go_if1 az_d_eq)
theorem az_s46_18 : az_p46 C Q (18, lv, st, h) ↔ az_mi (lv 4) (fun x => az_p46 C Q (20, lv, .int x :: st, h)) := az_wp_iff.trans az_go_ldi
theorem az_s46_20 : az_p46 C Q (20, lv, st, h) ↔ az_p46 C Q (21, lv, .int (Int32.ofInt (0)) :: st, h) := az_wp_iff
theorem az_s46_21 : az_p46 C Q (21, lv, st, h) ↔ az_p46 C Q (22, lv, .int (Int32.ofInt (3)) :: st, h) := az_wp_iff
theorem az_s46_22 {v1 v2 v3 : Value} : az_p46 C Q (22, lv, v3 :: v2 :: v1 :: st, h) ↔ az_cat st ≤ 8 ∧ az_mc C 132 [v1, v2, v3] h (fun v h' => az_p46 C Q (25, lv, v ++ st, h')) := az_wp_iff.trans az_go_call
theorem az_s46_25 {x : Int32} : az_p46 C Q (25, lv, .int x :: st, h) ↔ (x = 0 → az_p46 C Q (42, lv, st, h)) ∧ (¬ x = 0 → az_p46 C Q (28, lv, st, h)) := az_wp_iff.trans (az_go_if1 az_d_eq)
theorem az_s46_28 : az_p46 C Q (28, lv, st, h) ↔ az_ma (lv 0) (fun x => az_p46 C Q (29, lv, x :: st, h)) := az_wp_iff.trans az_go_lda
theorem az_s46_29 {a : Nat} : az_p46 C Q (29, lv, .ref a :: st, h) ↔ az_mf (h.1 a) 5 4 (fun v => az_p46 C Q (32, lv, v :: st, h)) := az_wp_iff.trans az_go_gf
theorem az_s46_32 : az_p46 C Q (32, lv, st, h) ↔ az_mi (lv 5) (fun x => az_p46 C Q (34, lv, .int x :: st, h)) := az_wp_iff.trans az_go_ldi
theorem az_s46_34 : az_p46 C Q (34, lv, st, h) ↔ az_p46 C Q (35, lv, .int (Int32.ofInt (4)) :: st, h) := az_wp_iff
theorem az_s46_35 {x y : Int32} : az_p46 C Q (35, lv, .int y :: .int x :: st, h) ↔ az_p46 C Q (36, lv, .int (x * y) :: st, h) := az_wp_iff
theorem az_s46_36 : az_p46 C Q (36, lv, st, h) ↔ az_mi (lv 4) (fun x => az_p46 C Q (38, lv, .int x :: st, h)) := az_wp_iff.trans az_go_ldi
theorem az_s46_38 {x y : Int32} : az_p46 C Q (38, lv, .int y :: .int x :: st, h) ↔ az_p46 C Q (39, lv, .int (x + y) :: st, h) := az_wp_iff
theorem az_s46_39 : az_p46 C Q (39, lv, st, h) ↔ az_p46 C Q (41, lv, .int (Int32.ofInt (1000000)) :: st, h) := az_wp_iff
theorem az_s46_41 {a : Nat} {i x : Int32} : az_p46 C Q (41, lv, .int x :: .int i :: .ref a :: st, h) ↔ az_mw' (h.1 a) i.toInt x (fun c => az_p46 C Q (42, lv, st, az_uh h a c)) := az_wp_iff.trans az_go_ias
theorem az_s46_42 : az_p46 C Q (42, lv, st, h) ↔ az_mi (lv 5) (fun x => az_p46 C Q (44, lv, .int x :: st, h)) := az_wp_iff.trans az_go_ldi
theorem az_s46_44 {x : Int32} : az_p46 C Q (44, lv, [.int x], h) ↔ Q (some (.int x)) h := az_wp_iff
def az_p47 (C : az_Cl) (Q : Option Value → az_H → Prop) : az_S → Prop := az_wp C (fun _ => none) (some .int) (az_fn az_k47) Q
theorem az_s47_0 : az_p47 C Q (0, lv, st, h) ↔ az_ma (lv 0) (fun x => az_p47 C Q (1, lv, x :: st, h)) := az_wp_iff.trans az_go_lda
theorem az_s47_1 : az_p47 C Q (1, lv, st, h) ↔ az_mi (lv 2) (fun x => az_p47 C Q (2, lv, .int x :: st, h)) := az_wp_iff.trans az_go_ldi
theorem az_s47_2 : az_p47 C Q (2, lv, st, h) ↔ az_mi (lv 3) (fun x => az_p47 C Q (3, lv, .int x :: st, h)) := az_wp_iff.trans az_go_ldi
theorem az_s47_3 : az_p47 C Q (3, lv, st, h) ↔ az_ma (lv 0) (fun x => az_p47 C Q (4, lv, x :: st, h)) := az_wp_iff.trans az_go_lda
theorem az_s47_4 : az_p47 C Q (4, lv, st, h) ↔ az_mi (lv 1) (fun x => az_p47 C Q (5, lv, .int x :: st, h)) := az_wp_iff.trans az_go_ldi
theorem az_s47_5 {a : Nat} {v1 : Value} : az_p47 C Q (5, lv, v1 :: .ref a :: st, h) ↔ az_isob (h.1 a) 5 = true ∧ az_cat st ≤ 8 ∧ az_mc C 42 [.ref a, v1] h (fun v h' => az_p47 C Q (8, lv, v ++ st, h')) := az_wp_iff.trans (az_go_if.trans (and_congr Iff.rfl az_go_call))
theorem az_s47_8 {a : Nat} {v1 v2 v3 : Value} : az_p47 C Q (8, lv, v3 :: v2 :: v1 :: .ref a :: st, h) ↔ az_isob (h.1 a) 5 = true ∧ az_cat st ≤ 8 ∧ az_mc C 48 [.ref a, v1, v2, v3] h (fun v h' => az_p47 C Q (11, lv, v ++ st, h')) := az_wp_iff.trans (az_go_if.trans (and_congr Iff.rfl az_go_call))
theorem az_s47_11 {x : Int32} : az_p47 C Q (11, lv, .int x :: st, h) ↔ az_p47 C Q (13, (az_s1 lv 4 (.int x)), st, h) := az_wp_iff
theorem az_s47_13 : az_p47 C Q (13, lv, st, h) ↔ az_ma (lv 0) (fun x => az_p47 C Q (14, lv, x :: st, h)) := az_wp_iff.trans az_go_lda
theorem az_s47_14 : az_p47 C Q (14, lv, st, h) ↔ az_mi (lv 4) (fun x => az_p47 C Q (16, lv, .int x :: st, h)) := az_wp_iff.trans az_go_ldi
theorem az_s47_16 {a : Nat} {v1 : Value} : az_p47 C Q (16, lv, v1 :: .ref a :: st, h) ↔ az_isob (h.1 a) 5 = true ∧ az_cat st ≤ 8 ∧ az_mc C 38 [.ref a, v1] h (fun v h' => az_p47 C Q (19, lv, v ++ st, h')) := az_wp_iff.trans (az_go_if.trans (and_congr Iff.rfl az_go_call))
theorem az_s47_19 {x : Int32} : az_p47 C Q (19, lv, .int x :: st, h) ↔ (x = 0 → az_p47 C Q (49, lv, st, h)) ∧ (¬ x = 0 → az_p47 C Q (22, lv, st, h)) := az_wp_iff.trans (az_go_if1 az_d_eq)
theorem az_s47_22 : az_p47 C Q (22, lv, st, h) ↔ az_ma (lv 0) (fun x => az_p47 C Q (23, lv, x :: st, h)) := az_wp_iff.trans az_go_lda
theorem az_s47_23 : az_p47 C Q (23, lv, st, h) ↔ az_mi (lv 1) (fun x => az_p47 C Q (24, lv, .int x :: st, h)) := az_wp_iff.trans az_go_ldi
theorem az_s47_24 {a : Nat} {v1 : Value} : az_p47 C Q (24, lv, v1 :: .ref a :: st, h) ↔ az_isob (h.1 a) 5 = true ∧ az_cat st ≤ 8 ∧ az_mc C 38 [.ref a, v1] h (fun v h' => az_p47 C Q (27, lv, v ++ st, h')) := az_wp_iff.trans (az_go_if.trans (and_congr Iff.rfl az_go_call))
theorem az_s47_27 {x : Int32} : az_p47 C Q (27, lv, .int x :: st, h) ↔ (x = 0 → az_p47 C Q (49, lv, st, h)) ∧ (¬ x = 0 → az_p47 C Q (30, lv, st, h)) := az_wp_iff.trans (az_go_if1 az_d_eq)
theorem az_s47_30 : az_p47 C Q (30, lv, st, h) ↔ az_ma (lv 0) (fun x => az_p47 C Q (31, lv, x :: st, h)) := az_wp_iff.trans az_go_lda
theorem az_s47_31 {a : Nat} : az_p47 C Q (31, lv, .ref a :: st, h) ↔ az_mf (h.1 a) 5 4 (fun v => az_p47 C Q (34, lv, v :: st, h)) := az_wp_iff.trans az_go_gf
theorem az_s47_34 : az_p47 C Q (34, lv, st, h) ↔ az_mi (lv 1) (fun x => az_p47 C Q (35, lv, .int x :: st, h)) := az_wp_iff.trans az_go_ldi
theorem az_s47_35 : az_p47 C Q (35, lv, st, h) ↔ az_p47 C Q (36, lv, .int (Int32.ofInt (4)) :: st, h) := az_wp_iff
theorem az_s47_36 {x y : Int32} : az_p47 C Q (36, lv, .int y :: .int x :: st, h) ↔ az_p47 C Q (37, lv, .int (x * y) :: st, h) := az_wp_iff
theorem az_s47_37 : az_p47 C Q (37, lv, st, h) ↔ az_ma (lv 0) (fun x => az_p47 C Q (38, lv, x :: st, h)) := az_wp_iff.trans az_go_lda
theorem az_s47_38 {a : Nat} : az_p47 C Q (38, lv, .ref a :: st, h) ↔ az_mf (h.1 a) 5 4 (fun v => az_p47 C Q (41, lv, v :: st, h)) := az_wp_iff.trans az_go_gf
theorem az_s47_41 : az_p47 C Q (41, lv, st, h) ↔ az_mi (lv 4) (fun x => az_p47 C Q (43, lv, .int x :: st, h)) := az_wp_iff.trans az_go_ldi
theorem az_s47_43 : az_p47 C Q (43, lv, st, h) ↔ az_p47 C Q (44, lv, .int (Int32.ofInt (4)) :: st, h) := az_wp_iff
theorem az_s47_44 {x y : Int32} : az_p47 C Q (44, lv, .int y :: .int x :: st, h) ↔ az_p47 C Q (45, lv, .int (x * y) :: st, h) := az_wp_iff
theorem az_s47_45 : az_p47 C Q (45, lv, st, h) ↔ az_p47 C Q (46, lv, .int (Int32.ofInt (4)) :: st, h) := az_wp_iff
theorem az_s47_46 {a b : Nat} {n dp sp : Int32} : az_p47 C Q (46, lv, .int n :: .int dp :: .ref a :: .int sp :: .ref b :: st, h) ↔ az_mcp (h.1 b) (h.1 a) sp.toInt dp.toInt n.toInt st (fun c => az_p47 C Q (49, lv, st, az_uh h a c)) := az_wp_iff.trans az_go_ac
theorem az_s47_49 : az_p47 C Q (49, lv, st, h) ↔ az_mi (lv 4) (fun x => az_p47 C Q (51, lv, .int x :: st, h)) := az_wp_iff.trans az_go_ldi
theorem az_s47_51 {x : Int32} : az_p47 C Q (51, lv, [.int x], h) ↔ Q (some (.int x)) h := az_wp_iff
def az_p48 (C : az_Cl) (Q : Option Value → az_H → Prop) : az_S → Prop := az_wp C (fun _ => none) (some .int) (az_fn az_k48) Q
theorem az_s48_0 : az_p48 C Q (0, lv, st, h) ↔ az_ma (lv 0) (fun x => az_p48 C Q (1, lv, x :: st, h)) := az_wp_iff.trans az_go_lda
theorem az_s48_1 : az_p48 C Q (1, lv, st, h) ↔ az_p48 C Q (2, lv, .int (Int32.ofInt (1)) :: st, h) := az_wp_iff
theorem az_s48_2 {a : Nat} {v1 : Value} : az_p48 C Q (2, lv, v1 :: .ref a :: st, h) ↔ az_isob (h.1 a) 5 = true ∧ az_cat st ≤ 8 ∧ az_mc C 39 [.ref a, v1] h (fun v h' => az_p48 C Q (5, lv, v ++ st, h')) := az_wp_iff.trans (az_go_if.trans (and_congr Iff.rfl az_go_call))
theorem az_s48_5 {x : Int32} : az_p48 C Q (5, lv, .int x :: st, h) ↔ (¬ x = 0 → az_p48 C Q (10, lv, st, h)) ∧ (¬ ¬ x = 0 → az_p48 C Q (8, lv, st, h)) := az_wp_iff.trans (az_go_if1 az_d_eq)
theorem az_s48_8 : az_p48 C Q (8, lv, st, h) ↔ az_p48 C Q (9, lv, .int (Int32.ofInt (-1)) :: st, h) := az_wp_iff
theorem az_s48_9 {x : Int32} : az_p48 C Q (9, lv, [.int x], h) ↔ Q (some (.int x)) h := az_wp_iff
theorem az_s48_10 : az_p48 C Q (10, lv, st, h) ↔ az_ma (lv 0) (fun x => az_p48 C Q (11, lv, x :: st, h)) := az_wp_iff.trans az_go_lda
theorem az_s48_11 {a : Nat}  : az_p48 C Q (11, lv, .ref a :: st, h) ↔ az_isob (h.1 a) 5 = true ∧ az_cat st ≤ 8 ∧ az_mc C 49 [.ref a] h (fun v h' => az_p48 C Q (14, lv, v ++ st, h')) := az_wp_iff.trans (az_go_if.trans (and_congr Iff.rfl az_go_call))
theorem az_s48_14 : az_p48 C Q (14, lv, st, h) ↔ az_ma (lv 0) (fun x => az_p48 C Q (15, lv, x :: st, h)) := az_wp_iff.trans az_go_lda
theorem az_s48_15 {a : Nat} : az_p48 C Q (15, lv, .ref a :: st, h) ↔ az_mf (h.1 a) 5 0 (fun v => az_p48 C Q (18, lv, v :: st, h)) := az_wp_iff.trans az_go_gf
theorem az_s48_18 {x : Int32} : az_p48 C Q (18, lv, .int x :: st, h) ↔ az_p48 C Q (20, (az_s1 lv 4 (.int x)), st, h) := az_wp_iff
theorem az_s48_20 : az_p48 C Q (20, lv, st, h) ↔ az_ma (lv 0) (fun x => az_p48 C Q (21, lv, x :: st, h)) := az_wp_iff.trans az_go_lda
theorem az_s48_21 {a : Nat} : az_p48 C Q (21, lv, .ref a :: st, h) ↔ az_mf (h.1 a) 5 1 (fun v => az_p48 C Q (24, lv, v :: st, h)) := az_wp_iff.trans az_go_gf
theorem az_s48_24 : az_p48 C Q (24, lv, st, h) ↔ az_mi (lv 4) (fun x => az_p48 C Q (26, lv, .int x :: st, h)) := az_wp_iff.trans az_go_ldi
theorem az_s48_26 : az_p48 C Q (26, lv, st, h) ↔ az_mi (lv 1) (fun x => az_p48 C Q (27, lv, .int x :: st, h)) := az_wp_iff.trans az_go_ldi
theorem az_s48_27 {a : Nat} {i x : Int32} : az_p48 C Q (27, lv, .int x :: .int i :: .ref a :: st, h) ↔ az_mw' (h.1 a) i.toInt x (fun c => az_p48 C Q (28, lv, st, az_uh h a c)) := az_wp_iff.trans az_go_ias
theorem az_s48_28 : az_p48 C Q (28, lv, st, h) ↔ az_ma (lv 0) (fun x => az_p48 C Q (29, lv, x :: st, h)) := az_wp_iff.trans az_go_lda
theorem az_s48_29 {a : Nat} : az_p48 C Q (29, lv, .ref a :: st, h) ↔ az_mf (h.1 a) 5 2 (fun v => az_p48 C Q (32, lv, v :: st, h)) := az_wp_iff.trans az_go_gf
theorem az_s48_32 : az_p48 C Q (32, lv, st, h) ↔ az_mi (lv 4) (fun x => az_p48 C Q (34, lv, .int x :: st, h)) := az_wp_iff.trans az_go_ldi
theorem az_s48_34 : az_p48 C Q (34, lv, st, h) ↔ az_mi (lv 2) (fun x => az_p48 C Q (35, lv, .int x :: st, h)) := az_wp_iff.trans az_go_ldi
theorem az_s48_35 {a : Nat} {i x : Int32} : az_p48 C Q (35, lv, .int x :: .int i :: .ref a :: st, h) ↔ az_mw' (h.1 a) i.toInt x (fun c => az_p48 C Q (36, lv, st, az_uh h a c)) := az_wp_iff.trans az_go_ias
theorem az_s48_36 : az_p48 C Q (36, lv, st, h) ↔ az_ma (lv 0) (fun x => az_p48 C Q (37, lv, x :: st, h)) := az_wp_iff.trans az_go_lda
theorem az_s48_37 {a : Nat} : az_p48 C Q (37, lv, .ref a :: st, h) ↔ az_mf (h.1 a) 5 3 (fun v => az_p48 C Q (40, lv, v :: st, h)) := az_wp_iff.trans az_go_gf
theorem az_s48_40 : az_p48 C Q (40, lv, st, h) ↔ az_mi (lv 4) (fun x => az_p48 C Q (42, lv, .int x :: st, h)) := az_wp_iff.trans az_go_ldi
theorem az_s48_42 : az_p48 C Q (42, lv, st, h) ↔ az_mi (lv 3) (fun x => az_p48 C Q (43, lv, .int x :: st, h)) := az_wp_iff.trans az_go_ldi
theorem az_s48_43 {a : Nat} {i x : Int32} : az_p48 C Q (43, lv, .int x :: .int i :: .ref a :: st, h) ↔ az_mw' (h.1 a) i.toInt x (fun c => az_p48 C Q (44, lv, st, az_uh h a c)) := az_wp_iff.trans az_go_ias
theorem az_s48_44 : az_p48 C Q (44, lv, st, h) ↔ az_ma (lv 0) (fun x => az_p48 C Q (45, lv, x :: st, h)) := az_wp_iff.trans az_go_lda
theorem az_s48_45 {x : Int32} : az_p48 C Q (45, lv, .int x :: st, h) ↔ az_p48 C Q (46, lv, .int x :: .int x :: st, h) := az_wp_iff
theorem az_s48_45r {x : Nat} : az_p48 C Q (45, lv, .ref x :: st, h) ↔ az_p48 C Q (46, lv, .ref x :: .ref x :: st, h) := az_wp_iff
theorem az_s48_46 {a : Nat} : az_p48 C Q (46, lv, .ref a :: st, h) ↔ az_mf (h.1 a) 5 0 (fun v => az_p48 C Q (49, lv, v :: st, h)) := az_wp_iff.trans az_go_gf
theorem az_s48_49 : az_p48 C Q (49, lv, st, h) ↔ az_p48 C Q (50, lv, .int (Int32.ofInt (1)) :: st, h) := az_wp_iff
theorem az_s48_50 {x y : Int32} : az_p48 C Q (50, lv, .int y :: .int x :: st, h) ↔ az_p48 C Q (51, lv, .int (x + y) :: st, h) := az_wp_iff
theorem az_s48_51 {a : Nat} {v : Value} : az_p48 C Q (51, lv, v :: .ref a :: st, h) ↔ az_mp (h.1 a) 5 0 0 v (fun c => az_p48 C Q (54, lv, st, az_uh h a c)) := az_wp_iff.trans az_go_pf
theorem az_s48_54 : az_p48 C Q (54, lv, st, h) ↔ az_mi (lv 4) (fun x => az_p48 C Q (56, lv, .int x :: st, h)) := az_wp_iff.trans az_go_ldi
theorem az_s48_56 {x : Int32} : az_p48 C Q (56, lv, [.int x], h) ↔ Q (some (.int x)) h := az_wp_iff
def az_p49 (C : az_Cl) (Q : Option Value → az_H → Prop) : az_S → Prop := az_wp C (fun _ => none) none (az_fn az_k49) Q
theorem az_s49_0 : az_p49 C Q (0, lv, st, h) ↔ az_ma (lv 0) (fun x => az_p49 C Q (1, lv, x :: st, h)) := az_wp_iff.trans az_go_lda
theorem az_s49_1 {a : Nat} : az_p49 C Q (1, lv, .ref a :: st, h) ↔ az_mf (h.1 a) 5 0 (fun v => az_p49 C Q (4, lv, v :: st, h)) := az_wp_iff.trans az_go_gf
theorem az_s49_4 : az_p49 C Q (4, lv, st, h) ↔ az_ma (lv 0) (fun x => az_p49 C Q (5, lv, x :: st, h)) := az_wp_iff.trans az_go_lda
theorem az_s49_5 {a : Nat} : az_p49 C Q (5, lv, .ref a :: st, h) ↔ az_mf (h.1 a) 5 1 (fun v => az_p49 C Q (8, lv, v :: st, h)) := az_wp_iff.trans az_go_gf
theorem az_s49_8 {a : Nat} : az_p49 C Q (8, lv, .ref a :: st, h) ↔ az_mn (h.1 a) (fun x => az_p49 C Q (9, lv, .int x :: st, h)) := az_wp_iff.trans az_go_aln
theorem az_s49_9 {x y : Int32} : az_p49 C Q (9, lv, .int y :: .int x :: st, h) ↔ (y ≤ x → az_p49 C Q (13, lv, st, h)) ∧ (¬ y ≤ x → az_p49 C Q (12, lv, st, h)) := az_wp_iff.trans (az_go_if2 az_d_eq)
theorem az_s49_12 : az_p49 C Q (12, lv, [], h) ↔ Q none h := az_wp_iff
theorem az_s49_13 : az_p49 C Q (13, lv, st, h) ↔ az_p49 C Q (16, lv, .int (Int32.ofInt (1500)) :: st, h) := az_wp_iff
theorem az_s49_16 : az_p49 C Q (16, lv, st, h) ↔ az_p49 C Q (17, lv, .int (Int32.ofInt (2)) :: st, h) := az_wp_iff
theorem az_s49_17 : az_p49 C Q (17, lv, st, h) ↔ az_ma (lv 0) (fun x => az_p49 C Q (18, lv, x :: st, h)) := az_wp_iff.trans az_go_lda
theorem az_s49_18 {a : Nat} : az_p49 C Q (18, lv, .ref a :: st, h) ↔ az_mf (h.1 a) 5 1 (fun v => az_p49 C Q (21, lv, v :: st, h)) := az_wp_iff.trans az_go_gf
theorem az_s49_21 {a : Nat} : az_p49 C Q (21, lv, .ref a :: st, h) ↔ az_mn (h.1 a) (fun x => az_p49 C Q (22, lv, .int x :: st, h)) := az_wp_iff.trans az_go_aln
theorem az_s49_22 {x y : Int32} : az_p49 C Q (22, lv, .int y :: .int x :: st, h) ↔ az_p49 C Q (23, lv, .int (x * y) :: st, h) := az_wp_iff
theorem az_s49_23 {x y : Int32} : az_p49 C Q (23, lv, .int y :: .int x :: st, h) ↔ az_cat st ≤ 8 ∧ az_p49 C Q (26, lv, .int (if decide (y < x) = true then y else x) :: st, h) := az_wp_iff.trans az_go_if
theorem az_s49_26 {x : Int32} : az_p49 C Q (26, lv, .int x :: st, h) ↔ az_p49 C Q (27, (az_s1 lv 1 (.int x)), st, h) := az_wp_iff
theorem az_s49_27 : az_p49 C Q (27, lv, st, h) ↔ az_ma (lv 0) (fun x => az_p49 C Q (28, lv, x :: st, h)) := az_wp_iff.trans az_go_lda
theorem az_s49_28 : az_p49 C Q (28, lv, st, h) ↔ az_ma (lv 0) (fun x => az_p49 C Q (29, lv, x :: st, h)) := az_wp_iff.trans az_go_lda
theorem az_s49_29 {a : Nat} : az_p49 C Q (29, lv, .ref a :: st, h) ↔ az_mf (h.1 a) 5 1 (fun v => az_p49 C Q (32, lv, v :: st, h)) := az_wp_iff.trans az_go_gf
theorem az_s49_32 : az_p49 C Q (32, lv, st, h) ↔ az_mi (lv 1) (fun x => az_p49 C Q (33, lv, .int x :: st, h)) := az_wp_iff.trans az_go_ldi
theorem az_s49_33 {v1 v2 : Value} : az_p49 C Q (33, lv, v2 :: v1 :: st, h) ↔ az_cat st ≤ 8 ∧ az_mc C 191 [v1, v2] h (fun v h' => az_p49 C Q (36, lv, v ++ st, h')) := az_wp_iff.trans az_go_call
theorem az_s49_36 {a : Nat} {v : Value} : az_p49 C Q (36, lv, v :: .ref a :: st, h) ↔ az_mp (h.1 a) 5 1 3 v (fun c => az_p49 C Q (39, lv, st, az_uh h a c)) := az_wp_iff.trans az_go_pf
theorem az_s49_39 : az_p49 C Q (39, lv, st, h) ↔ az_ma (lv 0) (fun x => az_p49 C Q (40, lv, x :: st, h)) := az_wp_iff.trans az_go_lda
theorem az_s49_40 : az_p49 C Q (40, lv, st, h) ↔ az_ma (lv 0) (fun x => az_p49 C Q (41, lv, x :: st, h)) := az_wp_iff.trans az_go_lda
theorem az_s49_41 {a : Nat} : az_p49 C Q (41, lv, .ref a :: st, h) ↔ az_mf (h.1 a) 5 2 (fun v => az_p49 C Q (44, lv, v :: st, h)) := az_wp_iff.trans az_go_gf
theorem az_s49_44 : az_p49 C Q (44, lv, st, h) ↔ az_mi (lv 1) (fun x => az_p49 C Q (45, lv, .int x :: st, h)) := az_wp_iff.trans az_go_ldi
theorem az_s49_45 {v1 v2 : Value} : az_p49 C Q (45, lv, v2 :: v1 :: st, h) ↔ az_cat st ≤ 8 ∧ az_mc C 191 [v1, v2] h (fun v h' => az_p49 C Q (48, lv, v ++ st, h')) := az_wp_iff.trans az_go_call
theorem az_s49_48 {a : Nat} {v : Value} : az_p49 C Q (48, lv, v :: .ref a :: st, h) ↔ az_mp (h.1 a) 5 2 3 v (fun c => az_p49 C Q (51, lv, st, az_uh h a c)) := az_wp_iff.trans az_go_pf
theorem az_s49_51 : az_p49 C Q (51, lv, st, h) ↔ az_ma (lv 0) (fun x => az_p49 C Q (52, lv, x :: st, h)) := az_wp_iff.trans az_go_lda
theorem az_s49_52 : az_p49 C Q (52, lv, st, h) ↔ az_ma (lv 0) (fun x => az_p49 C Q (53, lv, x :: st, h)) := az_wp_iff.trans az_go_lda
theorem az_s49_53 {a : Nat} : az_p49 C Q (53, lv, .ref a :: st, h) ↔ az_mf (h.1 a) 5 3 (fun v => az_p49 C Q (56, lv, v :: st, h)) := az_wp_iff.trans az_go_gf
theorem az_s49_56 : az_p49 C Q (56, lv, st, h) ↔ az_mi (lv 1) (fun x => az_p49 C Q (57, lv, .int x :: st, h)) := az_wp_iff.trans az_go_ldi
theorem az_s49_57 {v1 v2 : Value} : az_p49 C Q (57, lv, v2 :: v1 :: st, h) ↔ az_cat st ≤ 8 ∧ az_mc C 191 [v1, v2] h (fun v h' => az_p49 C Q (60, lv, v ++ st, h')) := az_wp_iff.trans az_go_call
theorem az_s49_60 {a : Nat} {v : Value} : az_p49 C Q (60, lv, v :: .ref a :: st, h) ↔ az_mp (h.1 a) 5 3 3 v (fun c => az_p49 C Q (63, lv, st, az_uh h a c)) := az_wp_iff.trans az_go_pf
theorem az_s49_63 : az_p49 C Q (63, lv, st, h) ↔ az_ma (lv 0) (fun x => az_p49 C Q (64, lv, x :: st, h)) := az_wp_iff.trans az_go_lda
theorem az_s49_64 : az_p49 C Q (64, lv, st, h) ↔ az_ma (lv 0) (fun x => az_p49 C Q (65, lv, x :: st, h)) := az_wp_iff.trans az_go_lda
theorem az_s49_65 {a : Nat} : az_p49 C Q (65, lv, .ref a :: st, h) ↔ az_mf (h.1 a) 5 4 (fun v => az_p49 C Q (68, lv, v :: st, h)) := az_wp_iff.trans az_go_gf
theorem az_s49_68 : az_p49 C Q (68, lv, st, h) ↔ az_mi (lv 1) (fun x => az_p49 C Q (69, lv, .int x :: st, h)) := az_wp_iff.trans az_go_ldi
theorem az_s49_69 : az_p49 C Q (69, lv, st, h) ↔ az_p49 C Q (70, lv, .int (Int32.ofInt (4)) :: st, h) := az_wp_iff
theorem az_s49_70 {x y : Int32} : az_p49 C Q (70, lv, .int y :: .int x :: st, h) ↔ az_p49 C Q (71, lv, .int (x * y) :: st, h) := az_wp_iff
theorem az_s49_71 {v1 v2 : Value} : az_p49 C Q (71, lv, v2 :: v1 :: st, h) ↔ az_cat st ≤ 8 ∧ az_mc C 191 [v1, v2] h (fun v h' => az_p49 C Q (74, lv, v ++ st, h')) := az_wp_iff.trans az_go_call
theorem az_s49_74 {a : Nat} {v : Value} : az_p49 C Q (74, lv, v :: .ref a :: st, h) ↔ az_mp (h.1 a) 5 4 3 v (fun c => az_p49 C Q (77, lv, st, az_uh h a c)) := az_wp_iff.trans az_go_pf
theorem az_s49_77 : az_p49 C Q (77, lv, [], h) ↔ Q none h := az_wp_iff
def az_p50 (C : az_Cl) (Q : Option Value → az_H → Prop) : az_S → Prop := az_wp C (fun _ => none) none (az_fn az_k50) Q
theorem az_s50_0 : az_p50 C Q (0, lv, st, h) ↔ az_ma (lv 0) (fun x => az_p50 C Q (1, lv, x :: st, h)) := az_wp_iff.trans az_go_lda
theorem az_s50_1 : az_p50 C Q (1, lv, st, h) ↔ az_mi (lv 1) (fun x => az_p50 C Q (2, lv, .int x :: st, h)) := az_wp_iff.trans az_go_ldi
theorem az_s50_2 {a : Nat} {v1 : Value} : az_p50 C Q (2, lv, v1 :: .ref a :: st, h) ↔ az_isob (h.1 a) 5 = true ∧ az_cat st ≤ 8 ∧ az_mc C 38 [.ref a, v1] h (fun v h' => az_p50 C Q (5, lv, v ++ st, h')) := az_wp_iff.trans (az_go_if.trans (and_congr Iff.rfl az_go_call))
theorem az_s50_5 {x : Int32} : az_p50 C Q (5, lv, .int x :: st, h) ↔ (x = 0 → az_p50 C Q (16, lv, st, h)) ∧ (¬ x = 0 → az_p50 C Q (8, lv, st, h)) := az_wp_iff.trans (az_go_if1 az_d_eq)
theorem az_s50_8 : az_p50 C Q (8, lv, st, h) ↔ az_ma (lv 0) (fun x => az_p50 C Q (9, lv, x :: st, h)) := az_wp_iff.trans az_go_lda
theorem az_s50_9 : az_p50 C Q (9, lv, st, h) ↔ az_mi (lv 2) (fun x => az_p50 C Q (10, lv, .int x :: st, h)) := az_wp_iff.trans az_go_ldi
theorem az_s50_10 {a : Nat} {v1 : Value} : az_p50 C Q (10, lv, v1 :: .ref a :: st, h) ↔ az_isob (h.1 a) 5 = true ∧ az_cat st ≤ 8 ∧ az_mc C 38 [.ref a, v1] h (fun v h' => az_p50 C Q (13, lv, v ++ st, h')) := az_wp_iff.trans (az_go_if.trans (and_congr Iff.rfl az_go_call))
theorem az_s50_13 {x : Int32} : az_p50 C Q (13, lv, .int x :: st, h) ↔ (¬ x = 0 → az_p50 C Q (17, lv, st, h)) ∧ (¬ ¬ x = 0 → az_p50 C Q (16, lv, st, h)) := az_wp_iff.trans (az_go_if1 az_d_eq)
theorem az_s50_16 : az_p50 C Q (16, lv, [], h) ↔ Q none h := az_wp_iff
theorem az_s50_17 : az_p50 C Q (17, lv, st, h) ↔ az_ma (lv 0) (fun x => az_p50 C Q (18, lv, x :: st, h)) := az_wp_iff.trans az_go_lda
theorem az_s50_18 {a : Nat} : az_p50 C Q (18, lv, .ref a :: st, h) ↔ az_mf (h.1 a) 5 1 (fun v => az_p50 C Q (21, lv, v :: st, h)) := az_wp_iff.trans az_go_gf
theorem az_s50_21 : az_p50 C Q (21, lv, st, h) ↔ az_mi (lv 1) (fun x => az_p50 C Q (22, lv, .int x :: st, h)) := az_wp_iff.trans az_go_ldi
theorem az_s50_22 {a : Nat} {i : Int32} : az_p50 C Q (22, lv, .int i :: .ref a :: st, h) ↔ az_mr (h.1 a) 0 i.toInt (fun x => az_p50 C Q (23, lv, .int x :: st, h)) := az_wp_iff.trans az_go_ial
theorem az_s50_23 {x : Int32} : az_p50 C Q (23, lv, .int x :: st, h) ↔ az_p50 C Q (24, lv, .long x.toInt64 :: st, h) := az_wp_iff
theorem az_s50_24 {x : Int64} : az_p50 C Q (24, lv, .long x :: st, h) ↔ az_p50 C Q (25, (az_s2 lv 3 (.long x)), st, h) := az_wp_iff
theorem az_s50_25 : az_p50 C Q (25, lv, st, h) ↔ az_ma (lv 0) (fun x => az_p50 C Q (26, lv, x :: st, h)) := az_wp_iff.trans az_go_lda
theorem az_s50_26 {a : Nat} : az_p50 C Q (26, lv, .ref a :: st, h) ↔ az_mf (h.1 a) 5 1 (fun v => az_p50 C Q (29, lv, v :: st, h)) := az_wp_iff.trans az_go_gf
theorem az_s50_29 : az_p50 C Q (29, lv, st, h) ↔ az_mi (lv 2) (fun x => az_p50 C Q (30, lv, .int x :: st, h)) := az_wp_iff.trans az_go_ldi
theorem az_s50_30 {a : Nat} {i : Int32} : az_p50 C Q (30, lv, .int i :: .ref a :: st, h) ↔ az_mr (h.1 a) 0 i.toInt (fun x => az_p50 C Q (31, lv, .int x :: st, h)) := az_wp_iff.trans az_go_ial
theorem az_s50_31 {x : Int32} : az_p50 C Q (31, lv, .int x :: st, h) ↔ az_p50 C Q (32, lv, .long x.toInt64 :: st, h) := az_wp_iff
theorem az_s50_32 {x : Int64} : az_p50 C Q (32, lv, .long x :: st, h) ↔ az_p50 C Q (34, (az_s2 lv 5 (.long x)), st, h) := az_wp_iff
theorem az_s50_34 : az_p50 C Q (34, lv, st, h) ↔ az_ma (lv 0) (fun x => az_p50 C Q (35, lv, x :: st, h)) := az_wp_iff.trans az_go_lda
theorem az_s50_35 {a : Nat} : az_p50 C Q (35, lv, .ref a :: st, h) ↔ az_mf (h.1 a) 5 2 (fun v => az_p50 C Q (38, lv, v :: st, h)) := az_wp_iff.trans az_go_gf
theorem az_s50_38 : az_p50 C Q (38, lv, st, h) ↔ az_mi (lv 1) (fun x => az_p50 C Q (39, lv, .int x :: st, h)) := az_wp_iff.trans az_go_ldi
theorem az_s50_39 : az_p50 C Q (39, lv, st, h) ↔ az_ml (lv 3) (fun x => az_p50 C Q (40, lv, .long x :: st, h)) := az_wp_iff.trans az_go_ldl
theorem az_s50_40 : az_p50 C Q (40, lv, st, h) ↔ az_ma (lv 0) (fun x => az_p50 C Q (41, lv, x :: st, h)) := az_wp_iff.trans az_go_lda
theorem az_s50_41 {a : Nat} : az_p50 C Q (41, lv, .ref a :: st, h) ↔ az_mf (h.1 a) 5 2 (fun v => az_p50 C Q (44, lv, v :: st, h)) := az_wp_iff.trans az_go_gf
theorem az_s50_44 : az_p50 C Q (44, lv, st, h) ↔ az_mi (lv 1) (fun x => az_p50 C Q (45, lv, .int x :: st, h)) := az_wp_iff.trans az_go_ldi
theorem az_s50_45 {a : Nat} {i : Int32} : az_p50 C Q (45, lv, .int i :: .ref a :: st, h) ↔ az_mr (h.1 a) 0 i.toInt (fun x => az_p50 C Q (46, lv, .int x :: st, h)) := az_wp_iff.trans az_go_ial
theorem az_s50_46 {x : Int32} : az_p50 C Q (46, lv, .int x :: st, h) ↔ az_p50 C Q (47, lv, .long x.toInt64 :: st, h) := az_wp_iff
theorem az_s50_47 {x y : Int64} : az_p50 C Q (47, lv, .long y :: .long x :: st, h) ↔ az_p50 C Q (48, lv, .long (x * y) :: st, h) := az_wp_iff
theorem az_s50_48 : az_p50 C Q (48, lv, st, h) ↔ az_ml (lv 5) (fun x => az_p50 C Q (50, lv, .long x :: st, h)) := az_wp_iff.trans az_go_ldl
theorem az_s50_50 : az_p50 C Q (50, lv, st, h) ↔ az_ma (lv 0) (fun x => az_p50 C Q (51, lv, x :: st, h)) := az_wp_iff.trans az_go_lda
theorem az_s50_51 {a : Nat} : az_p50 C Q (51, lv, .ref a :: st, h) ↔ az_mf (h.1 a) 5 2 (fun v => az_p50 C Q (54, lv, v :: st, h)) := az_wp_iff.trans az_go_gf
theorem az_s50_54 : az_p50 C Q (54, lv, st, h) ↔ az_mi (lv 2) (fun x => az_p50 C Q (55, lv, .int x :: st, h)) := az_wp_iff.trans az_go_ldi
theorem az_s50_55 {a : Nat} {i : Int32} : az_p50 C Q (55, lv, .int i :: .ref a :: st, h) ↔ az_mr (h.1 a) 0 i.toInt (fun x => az_p50 C Q (56, lv, .int x :: st, h)) := az_wp_iff.trans az_go_ial
theorem az_s50_56 {x : Int32} : az_p50 C Q (56, lv, .int x :: st, h) ↔ az_p50 C Q (57, lv, .long x.toInt64 :: st, h) := az_wp_iff
theorem az_s50_57 {x y : Int64} : az_p50 C Q (57, lv, .long y :: .long x :: st, h) ↔ az_p50 C Q (58, lv, .long (x * y) :: st, h) := az_wp_iff
theorem az_s50_58 {x y : Int64} : az_p50 C Q (58, lv, .long y :: .long x :: st, h) ↔ az_p50 C Q (59, lv, .long (x + y) :: st, h) := az_wp_iff
theorem az_s50_59 : az_p50 C Q (59, lv, st, h) ↔ az_ml (lv 3) (fun x => az_p50 C Q (60, lv, .long x :: st, h)) := az_wp_iff.trans az_go_ldl
theorem az_s50_60 : az_p50 C Q (60, lv, st, h) ↔ az_ml (lv 5) (fun x => az_p50 C Q (62, lv, .long x :: st, h)) := az_wp_iff.trans az_go_ldl
theorem az_s50_62 {x y : Int64} : az_p50 C Q (62, lv, .long y :: .long x :: st, h) ↔ az_p50 C Q (63, lv, .long (x + y) :: st, h) := az_wp_iff
theorem az_s50_63 {v1 v2 : Value} : az_p50 C Q (63, lv, v2 :: v1 :: st, h) ↔ az_cat st ≤ 8 ∧ az_mc C 52 [v1, v2] h (fun v h' => az_p50 C Q (66, lv, v ++ st, h')) := az_wp_iff.trans az_go_call
theorem az_s50_66 {a : Nat} {i x : Int32} : az_p50 C Q (66, lv, .int x :: .int i :: .ref a :: st, h) ↔ az_mw' (h.1 a) i.toInt x (fun c => az_p50 C Q (67, lv, st, az_uh h a c)) := az_wp_iff.trans az_go_ias
theorem az_s50_67 : az_p50 C Q (67, lv, st, h) ↔ az_ma (lv 0) (fun x => az_p50 C Q (68, lv, x :: st, h)) := az_wp_iff.trans az_go_lda
theorem az_s50_68 {a : Nat} : az_p50 C Q (68, lv, .ref a :: st, h) ↔ az_mf (h.1 a) 5 3 (fun v => az_p50 C Q (71, lv, v :: st, h)) := az_wp_iff.trans az_go_gf
theorem az_s50_71 : az_p50 C Q (71, lv, st, h) ↔ az_mi (lv 1) (fun x => az_p50 C Q (72, lv, .int x :: st, h)) := az_wp_iff.trans az_go_ldi
theorem az_s50_72 : az_p50 C Q (72, lv, st, h) ↔ az_ml (lv 3) (fun x => az_p50 C Q (73, lv, .long x :: st, h)) := az_wp_iff.trans az_go_ldl
theorem az_s50_73 : az_p50 C Q (73, lv, st, h) ↔ az_ma (lv 0) (fun x => az_p50 C Q (74, lv, x :: st, h)) := az_wp_iff.trans az_go_lda
theorem az_s50_74 {a : Nat} : az_p50 C Q (74, lv, .ref a :: st, h) ↔ az_mf (h.1 a) 5 3 (fun v => az_p50 C Q (77, lv, v :: st, h)) := az_wp_iff.trans az_go_gf
theorem az_s50_77 : az_p50 C Q (77, lv, st, h) ↔ az_mi (lv 1) (fun x => az_p50 C Q (78, lv, .int x :: st, h)) := az_wp_iff.trans az_go_ldi
theorem az_s50_78 {a : Nat} {i : Int32} : az_p50 C Q (78, lv, .int i :: .ref a :: st, h) ↔ az_mr (h.1 a) 0 i.toInt (fun x => az_p50 C Q (79, lv, .int x :: st, h)) := az_wp_iff.trans az_go_ial
theorem az_s50_79 {x : Int32} : az_p50 C Q (79, lv, .int x :: st, h) ↔ az_p50 C Q (80, lv, .long x.toInt64 :: st, h) := az_wp_iff
theorem az_s50_80 {x y : Int64} : az_p50 C Q (80, lv, .long y :: .long x :: st, h) ↔ az_p50 C Q (81, lv, .long (x * y) :: st, h) := az_wp_iff
theorem az_s50_81 : az_p50 C Q (81, lv, st, h) ↔ az_ml (lv 5) (fun x => az_p50 C Q (83, lv, .long x :: st, h)) := az_wp_iff.trans az_go_ldl
theorem az_s50_83 : az_p50 C Q (83, lv, st, h) ↔ az_ma (lv 0) (fun x => az_p50 C Q (84, lv, x :: st, h)) := az_wp_iff.trans az_go_lda
theorem az_s50_84 {a : Nat} : az_p50 C Q (84, lv, .ref a :: st, h) ↔ az_mf (h.1 a) 5 3 (fun v => az_p50 C Q (87, lv, v :: st, h)) := az_wp_iff.trans az_go_gf
theorem az_s50_87 : az_p50 C Q (87, lv, st, h) ↔ az_mi (lv 2) (fun x => az_p50 C Q (88, lv, .int x :: st, h)) := az_wp_iff.trans az_go_ldi
theorem az_s50_88 {a : Nat} {i : Int32} : az_p50 C Q (88, lv, .int i :: .ref a :: st, h) ↔ az_mr (h.1 a) 0 i.toInt (fun x => az_p50 C Q (89, lv, .int x :: st, h)) := az_wp_iff.trans az_go_ial
theorem az_s50_89 {x : Int32} : az_p50 C Q (89, lv, .int x :: st, h) ↔ az_p50 C Q (90, lv, .long x.toInt64 :: st, h) := az_wp_iff
theorem az_s50_90 {x y : Int64} : az_p50 C Q (90, lv, .long y :: .long x :: st, h) ↔ az_p50 C Q (91, lv, .long (x * y) :: st, h) := az_wp_iff
theorem az_s50_91 {x y : Int64} : az_p50 C Q (91, lv, .long y :: .long x :: st, h) ↔ az_p50 C Q (92, lv, .long (x + y) :: st, h) := az_wp_iff
theorem az_s50_92 : az_p50 C Q (92, lv, st, h) ↔ az_ml (lv 3) (fun x => az_p50 C Q (93, lv, .long x :: st, h)) := az_wp_iff.trans az_go_ldl
theorem az_s50_93 : az_p50 C Q (93, lv, st, h) ↔ az_ml (lv 5) (fun x => az_p50 C Q (95, lv, .long x :: st, h)) := az_wp_iff.trans az_go_ldl
theorem az_s50_95 {x y : Int64} : az_p50 C Q (95, lv, .long y :: .long x :: st, h) ↔ az_p50 C Q (96, lv, .long (x + y) :: st, h) := az_wp_iff
theorem az_s50_96 {v1 v2 : Value} : az_p50 C Q (96, lv, v2 :: v1 :: st, h) ↔ az_cat st ≤ 8 ∧ az_mc C 52 [v1, v2] h (fun v h' => az_p50 C Q (99, lv, v ++ st, h')) := az_wp_iff.trans az_go_call
theorem az_s50_99 {a : Nat} {i x : Int32} : az_p50 C Q (99, lv, .int x :: .int i :: .ref a :: st, h) ↔ az_mw' (h.1 a) i.toInt x (fun c => az_p50 C Q (100, lv, st, az_uh h a c)) := az_wp_iff.trans az_go_ias
theorem az_s50_100 : az_p50 C Q (100, lv, st, h) ↔ az_ma (lv 0) (fun x => az_p50 C Q (101, lv, x :: st, h)) := az_wp_iff.trans az_go_lda
theorem az_s50_101 {a : Nat} : az_p50 C Q (101, lv, .ref a :: st, h) ↔ az_mf (h.1 a) 5 1 (fun v => az_p50 C Q (104, lv, v :: st, h)) := az_wp_iff.trans az_go_gf
theorem az_s50_104 : az_p50 C Q (104, lv, st, h) ↔ az_mi (lv 1) (fun x => az_p50 C Q (105, lv, .int x :: st, h)) := az_wp_iff.trans az_go_ldi
theorem az_s50_105 : az_p50 C Q (105, lv, st, h) ↔ az_ml (lv 3) (fun x => az_p50 C Q (106, lv, .long x :: st, h)) := az_wp_iff.trans az_go_ldl
theorem az_s50_106 : az_p50 C Q (106, lv, st, h) ↔ az_ml (lv 5) (fun x => az_p50 C Q (108, lv, .long x :: st, h)) := az_wp_iff.trans az_go_ldl
theorem az_s50_108 {x y : Int64} : az_p50 C Q (108, lv, .long y :: .long x :: st, h) ↔ az_p50 C Q (109, lv, .long (x + y) :: st, h) := az_wp_iff
theorem az_s50_109 {x : Int64} : az_p50 C Q (109, lv, .long x :: st, h) ↔ az_p50 C Q (110, lv, .int x.toInt32 :: st, h) := az_wp_iff
theorem az_s50_110 {a : Nat} {i x : Int32} : az_p50 C Q (110, lv, .int x :: .int i :: .ref a :: st, h) ↔ az_mw' (h.1 a) i.toInt x (fun c => az_p50 C Q (111, lv, st, az_uh h a c)) := az_wp_iff.trans az_go_ias
theorem az_s50_111 : az_p50 C Q (111, lv, [], h) ↔ Q none h := az_wp_iff
def az_p51 (C : az_Cl) (Q : Option Value → az_H → Prop) : az_S → Prop := az_wp C (fun _ => none) none (az_fn az_k51) Q
theorem az_s51_0 : az_p51 C Q (0, lv, st, h) ↔ az_ma (lv 0) (fun x => az_p51 C Q (1, lv, x :: st, h)) := az_wp_iff.trans az_go_lda
theorem az_s51_1 : az_p51 C Q (1, lv, st, h) ↔ az_mi (lv 1) (fun x => az_p51 C Q (2, lv, .int x :: st, h)) := az_wp_iff.trans az_go_ldi
theorem az_s51_2 {a : Nat} {v1 : Value} : az_p51 C Q (2, lv, v1 :: .ref a :: st, h) ↔ az_isob (h.1 a) 5 = true ∧ az_cat st ≤ 8 ∧ az_mc C 38 [.ref a, v1] h (fun v h' => az_p51 C Q (5, lv, v ++ st, h')) := az_wp_iff.trans (az_go_if.trans (and_congr Iff.rfl az_go_call))
theorem az_s51_5 {x : Int32} : az_p51 C Q (5, lv, .int x :: st, h) ↔ (x = 0 → az_p51 C Q (16, lv, st, h)) ∧ (¬ x = 0 → az_p51 C Q (8, lv, st, h)) := az_wp_iff.trans (az_go_if1 az_d_eq)
theorem az_s51_8 : az_p51 C Q (8, lv, st, h) ↔ az_ma (lv 0) (fun x => az_p51 C Q (9, lv, x :: st, h)) := az_wp_iff.trans az_go_lda
theorem az_s51_9 : az_p51 C Q (9, lv, st, h) ↔ az_mi (lv 2) (fun x => az_p51 C Q (10, lv, .int x :: st, h)) := az_wp_iff.trans az_go_ldi
theorem az_s51_10 {a : Nat} {v1 : Value} : az_p51 C Q (10, lv, v1 :: .ref a :: st, h) ↔ az_isob (h.1 a) 5 = true ∧ az_cat st ≤ 8 ∧ az_mc C 38 [.ref a, v1] h (fun v h' => az_p51 C Q (13, lv, v ++ st, h')) := az_wp_iff.trans (az_go_if.trans (and_congr Iff.rfl az_go_call))
theorem az_s51_13 {x : Int32} : az_p51 C Q (13, lv, .int x :: st, h) ↔ (¬ x = 0 → az_p51 C Q (17, lv, st, h)) ∧ (¬ ¬ x = 0 → az_p51 C Q (16, lv, st, h)) := az_wp_iff.trans (az_go_if1 az_d_eq)
theorem az_s51_16 : az_p51 C Q (16, lv, [], h) ↔ Q none h := az_wp_iff
theorem az_s51_17 : az_p51 C Q (17, lv, st, h) ↔ az_ma (lv 0) (fun x => az_p51 C Q (18, lv, x :: st, h)) := az_wp_iff.trans az_go_lda
theorem az_s51_18 {a : Nat} : az_p51 C Q (18, lv, .ref a :: st, h) ↔ az_mf (h.1 a) 5 1 (fun v => az_p51 C Q (21, lv, v :: st, h)) := az_wp_iff.trans az_go_gf
theorem az_s51_21 : az_p51 C Q (21, lv, st, h) ↔ az_mi (lv 1) (fun x => az_p51 C Q (22, lv, .int x :: st, h)) := az_wp_iff.trans az_go_ldi
theorem az_s51_22 {a : Nat} {i : Int32} : az_p51 C Q (22, lv, .int i :: .ref a :: st, h) ↔ az_mr (h.1 a) 0 i.toInt (fun x => az_p51 C Q (23, lv, .int x :: st, h)) := az_wp_iff.trans az_go_ial
theorem az_s51_23 {x : Int32} : az_p51 C Q (23, lv, .int x :: st, h) ↔ az_p51 C Q (24, lv, .long x.toInt64 :: st, h) := az_wp_iff
theorem az_s51_24 {x : Int64} : az_p51 C Q (24, lv, .long x :: st, h) ↔ az_p51 C Q (25, (az_s2 lv 3 (.long x)), st, h) := az_wp_iff
theorem az_s51_25 : az_p51 C Q (25, lv, st, h) ↔ az_ma (lv 0) (fun x => az_p51 C Q (26, lv, x :: st, h)) := az_wp_iff.trans az_go_lda
theorem az_s51_26 {a : Nat} : az_p51 C Q (26, lv, .ref a :: st, h) ↔ az_mf (h.1 a) 5 1 (fun v => az_p51 C Q (29, lv, v :: st, h)) := az_wp_iff.trans az_go_gf
theorem az_s51_29 : az_p51 C Q (29, lv, st, h) ↔ az_mi (lv 2) (fun x => az_p51 C Q (30, lv, .int x :: st, h)) := az_wp_iff.trans az_go_ldi
theorem az_s51_30 {a : Nat} {i : Int32} : az_p51 C Q (30, lv, .int i :: .ref a :: st, h) ↔ az_mr (h.1 a) 0 i.toInt (fun x => az_p51 C Q (31, lv, .int x :: st, h)) := az_wp_iff.trans az_go_ial
theorem az_s51_31 {x : Int32} : az_p51 C Q (31, lv, .int x :: st, h) ↔ az_p51 C Q (32, lv, .long x.toInt64 :: st, h) := az_wp_iff
theorem az_s51_32 {x : Int64} : az_p51 C Q (32, lv, .long x :: st, h) ↔ az_p51 C Q (34, (az_s2 lv 5 (.long x)), st, h) := az_wp_iff
theorem az_s51_34 : az_p51 C Q (34, lv, st, h) ↔ az_ml (lv 3) (fun x => az_p51 C Q (35, lv, .long x :: st, h)) := az_wp_iff.trans az_go_ldl
theorem az_s51_35 : az_p51 C Q (35, lv, st, h) ↔ az_ml (lv 5) (fun x => az_p51 C Q (37, lv, .long x :: st, h)) := az_wp_iff.trans az_go_ldl
theorem az_s51_37 {x y : Int64} : az_p51 C Q (37, lv, .long y :: .long x :: st, h) ↔ az_p51 C Q (38, lv, .long (x + y) :: st, h) := az_wp_iff
theorem az_s51_38 : az_p51 C Q (38, lv, st, h) ↔ az_p51 C Q (39, lv, .long (Int64.ofInt (0)) :: st, h) := az_wp_iff
theorem az_s51_39 {x y : Int64} : az_p51 C Q (39, lv, .long y :: .long x :: st, h) ↔ az_p51 C Q (40, lv, .int (lg_cmp x y) :: st, h) := az_wp_iff
theorem az_s51_40 {x : Int32} : az_p51 C Q (40, lv, .int x :: st, h) ↔ (0 < x → az_p51 C Q (44, lv, st, h)) ∧ (¬ 0 < x → az_p51 C Q (43, lv, st, h)) := az_wp_iff.trans (az_go_if1 az_d_eq)
theorem az_s51_43 : az_p51 C Q (43, lv, [], h) ↔ Q none h := az_wp_iff
theorem az_s51_44 : az_p51 C Q (44, lv, st, h) ↔ az_mi (lv 1) (fun x => az_p51 C Q (45, lv, .int x :: st, h)) := az_wp_iff.trans az_go_ldi
theorem az_s51_45 : az_p51 C Q (45, lv, st, h) ↔ az_p51 C Q (46, lv, .int (Int32.ofInt (4)) :: st, h) := az_wp_iff
theorem az_s51_46 {x y : Int32} : az_p51 C Q (46, lv, .int y :: .int x :: st, h) ↔ az_p51 C Q (47, lv, .int (x * y) :: st, h) := az_wp_iff
theorem az_s51_47 {x : Int32} : az_p51 C Q (47, lv, .int x :: st, h) ↔ az_p51 C Q (49, (az_s1 lv 7 (.int x)), st, h) := az_wp_iff
theorem az_s51_49 : az_p51 C Q (49, lv, st, h) ↔ az_p51 C Q (51, lv, .int (Int32.ofInt (1000000)) :: st, h) := az_wp_iff
theorem az_s51_51 {x : Int32} : az_p51 C Q (51, lv, .int x :: st, h) ↔ az_p51 C Q (53, (az_s1 lv 8 (.int x)), st, h) := az_wp_iff
theorem az_s51_53 : az_p51 C Q (53, lv, st, h) ↔ az_mi (lv 7) (fun x => az_p51 C Q (55, lv, .int x :: st, h)) := az_wp_iff.trans az_go_ldi
theorem az_s51_55 {x : Int32} : az_p51 C Q (55, lv, .int x :: st, h) ↔ az_p51 C Q (57, (az_s1 lv 9 (.int x)), st, h) := az_wp_iff
theorem az_s51_57 : az_p51 C Q (57, lv, st, h) ↔ az_p51 C Q (58, lv, .int (Int32.ofInt (0)) :: st, h) := az_wp_iff
theorem az_s51_58 {x : Int32} : az_p51 C Q (58, lv, .int x :: st, h) ↔ az_p51 C Q (60, (az_s1 lv 10 (.int x)), st, h) := az_wp_iff
theorem az_s51_60 : az_p51 C Q (60, lv, st, h) ↔ az_mi (lv 10) (fun x => az_p51 C Q (62, lv, .int x :: st, h)) := az_wp_iff.trans az_go_ldi
theorem az_s51_62 : az_p51 C Q (62, lv, st, h) ↔ az_p51 C Q (63, lv, .int (Int32.ofInt (4)) :: st, h) := az_wp_iff
theorem az_s51_63 {x y : Int32} : az_p51 C Q (63, lv, .int y :: .int x :: st, h) ↔ (y ≤ x → az_p51 C Q (163, lv, st, h)) ∧ (¬ y ≤ x → az_p51 C Q (66, lv, st, h)) := az_wp_iff.trans (az_go_if2 az_d_eq)
theorem az_s51_66 : az_p51 C Q (66, lv, st, h) ↔ az_ml (lv 3) (fun x => az_p51 C Q (67, lv, .long x :: st, h)) := az_wp_iff.trans az_go_ldl
theorem az_s51_67 : az_p51 C Q (67, lv, st, h) ↔ az_ma (lv 0) (fun x => az_p51 C Q (68, lv, x :: st, h)) := az_wp_iff.trans az_go_lda
theorem az_s51_68 {a : Nat} : az_p51 C Q (68, lv, .ref a :: st, h) ↔ az_mf (h.1 a) 5 4 (fun v => az_p51 C Q (71, lv, v :: st, h)) := az_wp_iff.trans az_go_gf
theorem az_s51_71 : az_p51 C Q (71, lv, st, h) ↔ az_mi (lv 7) (fun x => az_p51 C Q (73, lv, .int x :: st, h)) := az_wp_iff.trans az_go_ldi
theorem az_s51_73 : az_p51 C Q (73, lv, st, h) ↔ az_mi (lv 10) (fun x => az_p51 C Q (75, lv, .int x :: st, h)) := az_wp_iff.trans az_go_ldi
theorem az_s51_75 {x y : Int32} : az_p51 C Q (75, lv, .int y :: .int x :: st, h) ↔ az_p51 C Q (76, lv, .int (x + y) :: st, h) := az_wp_iff
theorem az_s51_76 {a : Nat} {i : Int32} : az_p51 C Q (76, lv, .int i :: .ref a :: st, h) ↔ az_mr (h.1 a) 0 i.toInt (fun x => az_p51 C Q (77, lv, .int x :: st, h)) := az_wp_iff.trans az_go_ial
theorem az_s51_77 {x : Int32} : az_p51 C Q (77, lv, .int x :: st, h) ↔ az_p51 C Q (78, lv, .long x.toInt64 :: st, h) := az_wp_iff
theorem az_s51_78 {x y : Int64} : az_p51 C Q (78, lv, .long y :: .long x :: st, h) ↔ az_p51 C Q (79, lv, .long (x * y) :: st, h) := az_wp_iff
theorem az_s51_79 : az_p51 C Q (79, lv, st, h) ↔ az_ml (lv 5) (fun x => az_p51 C Q (81, lv, .long x :: st, h)) := az_wp_iff.trans az_go_ldl
theorem az_s51_81 : az_p51 C Q (81, lv, st, h) ↔ az_ma (lv 0) (fun x => az_p51 C Q (82, lv, x :: st, h)) := az_wp_iff.trans az_go_lda
theorem az_s51_82 {a : Nat} : az_p51 C Q (82, lv, .ref a :: st, h) ↔ az_mf (h.1 a) 5 4 (fun v => az_p51 C Q (85, lv, v :: st, h)) := az_wp_iff.trans az_go_gf
theorem az_s51_85 : az_p51 C Q (85, lv, st, h) ↔ az_mi (lv 2) (fun x => az_p51 C Q (86, lv, .int x :: st, h)) := az_wp_iff.trans az_go_ldi
theorem az_s51_86 : az_p51 C Q (86, lv, st, h) ↔ az_p51 C Q (87, lv, .int (Int32.ofInt (4)) :: st, h) := az_wp_iff
theorem az_s51_87 {x y : Int32} : az_p51 C Q (87, lv, .int y :: .int x :: st, h) ↔ az_p51 C Q (88, lv, .int (x * y) :: st, h) := az_wp_iff
theorem az_s51_88 : az_p51 C Q (88, lv, st, h) ↔ az_mi (lv 10) (fun x => az_p51 C Q (90, lv, .int x :: st, h)) := az_wp_iff.trans az_go_ldi
theorem az_s51_90 {x y : Int32} : az_p51 C Q (90, lv, .int y :: .int x :: st, h) ↔ az_p51 C Q (91, lv, .int (x + y) :: st, h) := az_wp_iff
theorem az_s51_91 {a : Nat} {i : Int32} : az_p51 C Q (91, lv, .int i :: .ref a :: st, h) ↔ az_mr (h.1 a) 0 i.toInt (fun x => az_p51 C Q (92, lv, .int x :: st, h)) := az_wp_iff.trans az_go_ial
theorem az_s51_92 {x : Int32} : az_p51 C Q (92, lv, .int x :: st, h) ↔ az_p51 C Q (93, lv, .long x.toInt64 :: st, h) := az_wp_iff
theorem az_s51_93 {x y : Int64} : az_p51 C Q (93, lv, .long y :: .long x :: st, h) ↔ az_p51 C Q (94, lv, .long (x * y) :: st, h) := az_wp_iff
theorem az_s51_94 {x y : Int64} : az_p51 C Q (94, lv, .long y :: .long x :: st, h) ↔ az_p51 C Q (95, lv, .long (x + y) :: st, h) := az_wp_iff
theorem az_s51_95 {x : Int64} : az_p51 C Q (95, lv, .long x :: st, h) ↔ az_p51 C Q (97, (az_s2 lv 11 (.long x)), st, h) := az_wp_iff
theorem az_s51_97 : az_p51 C Q (97, lv, st, h) ↔ az_ma (lv 0) (fun x => az_p51 C Q (98, lv, x :: st, h)) := az_wp_iff.trans az_go_lda
theorem az_s51_98 {a : Nat} : az_p51 C Q (98, lv, .ref a :: st, h) ↔ az_mf (h.1 a) 5 4 (fun v => az_p51 C Q (101, lv, v :: st, h)) := az_wp_iff.trans az_go_gf
theorem az_s51_101 : az_p51 C Q (101, lv, st, h) ↔ az_mi (lv 7) (fun x => az_p51 C Q (103, lv, .int x :: st, h)) := az_wp_iff.trans az_go_ldi
theorem az_s51_103 : az_p51 C Q (103, lv, st, h) ↔ az_mi (lv 10) (fun x => az_p51 C Q (105, lv, .int x :: st, h)) := az_wp_iff.trans az_go_ldi
theorem az_s51_105 {x y : Int32} : az_p51 C Q (105, lv, .int y :: .int x :: st, h) ↔ az_p51 C Q (106, lv, .int (x + y) :: st, h) := az_wp_iff
theorem az_s51_106 : az_p51 C Q (106, lv, st, h) ↔ az_ml (lv 11) (fun x => az_p51 C Q (108, lv, .long x :: st, h)) := az_wp_iff.trans az_go_ldl
theorem az_s51_108 : az_p51 C Q (108, lv, st, h) ↔ az_ml (lv 3) (fun x => az_p51 C Q (109, lv, .long x :: st, h)) := az_wp_iff.trans az_go_ldl
theorem az_s51_109 : az_p51 C Q (109, lv, st, h) ↔ az_ml (lv 5) (fun x => az_p51 C Q (111, lv, .long x :: st, h)) := az_wp_iff.trans az_go_ldl
theorem az_s51_111 {x y : Int64} : az_p51 C Q (111, lv, .long y :: .long x :: st, h) ↔ az_p51 C Q (112, lv, .long (x + y) :: st, h) := az_wp_iff
theorem az_s51_112 {x y : Int64} : az_p51 C Q (112, lv, .long y :: .long x :: st, h) ↔ ¬ y = 0 ∧ az_p51 C Q (113, lv, .long (x / y) :: st, h) := az_wp_iff.trans az_go_ldv
theorem az_s51_113 {x : Int64} : az_p51 C Q (113, lv, .long x :: st, h) ↔ az_p51 C Q (114, lv, .int x.toInt32 :: st, h) := az_wp_iff
theorem az_s51_114 {a : Nat} {i x : Int32} : az_p51 C Q (114, lv, .int x :: .int i :: .ref a :: st, h) ↔ az_mw' (h.1 a) i.toInt x (fun c => az_p51 C Q (115, lv, st, az_uh h a c)) := az_wp_iff.trans az_go_ias
theorem az_s51_115 : az_p51 C Q (115, lv, st, h) ↔ az_mi (lv 8) (fun x => az_p51 C Q (117, lv, .int x :: st, h)) := az_wp_iff.trans az_go_ldi
theorem az_s51_117 : az_p51 C Q (117, lv, st, h) ↔ az_ma (lv 0) (fun x => az_p51 C Q (118, lv, x :: st, h)) := az_wp_iff.trans az_go_lda
theorem az_s51_118 {a : Nat} : az_p51 C Q (118, lv, .ref a :: st, h) ↔ az_mf (h.1 a) 5 4 (fun v => az_p51 C Q (121, lv, v :: st, h)) := az_wp_iff.trans az_go_gf
theorem az_s51_121 : az_p51 C Q (121, lv, st, h) ↔ az_mi (lv 7) (fun x => az_p51 C Q (123, lv, .int x :: st, h)) := az_wp_iff.trans az_go_ldi
theorem az_s51_123 : az_p51 C Q (123, lv, st, h) ↔ az_mi (lv 10) (fun x => az_p51 C Q (125, lv, .int x :: st, h)) := az_wp_iff.trans az_go_ldi
theorem az_s51_125 {x y : Int32} : az_p51 C Q (125, lv, .int y :: .int x :: st, h) ↔ az_p51 C Q (126, lv, .int (x + y) :: st, h) := az_wp_iff
theorem az_s51_126 {a : Nat} {i : Int32} : az_p51 C Q (126, lv, .int i :: .ref a :: st, h) ↔ az_mr (h.1 a) 0 i.toInt (fun x => az_p51 C Q (127, lv, .int x :: st, h)) := az_wp_iff.trans az_go_ial
theorem az_s51_127 {x y : Int32} : az_p51 C Q (127, lv, .int y :: .int x :: st, h) ↔ az_p51 C Q (128, lv, .int (x - y) :: st, h) := az_wp_iff
theorem az_s51_128 {x : Int32} : az_p51 C Q (128, lv, .int x :: st, h) ↔ az_p51 C Q (130, (az_s1 lv 8 (.int x)), st, h) := az_wp_iff
theorem az_s51_130 : az_p51 C Q (130, lv, st, h) ↔ az_ma (lv 0) (fun x => az_p51 C Q (131, lv, x :: st, h)) := az_wp_iff.trans az_go_lda
theorem az_s51_131 {a : Nat} : az_p51 C Q (131, lv, .ref a :: st, h) ↔ az_mf (h.1 a) 5 4 (fun v => az_p51 C Q (134, lv, v :: st, h)) := az_wp_iff.trans az_go_gf
theorem az_s51_134 : az_p51 C Q (134, lv, st, h) ↔ az_mi (lv 7) (fun x => az_p51 C Q (136, lv, .int x :: st, h)) := az_wp_iff.trans az_go_ldi
theorem az_s51_136 : az_p51 C Q (136, lv, st, h) ↔ az_mi (lv 10) (fun x => az_p51 C Q (138, lv, .int x :: st, h)) := az_wp_iff.trans az_go_ldi
theorem az_s51_138 {x y : Int32} : az_p51 C Q (138, lv, .int y :: .int x :: st, h) ↔ az_p51 C Q (139, lv, .int (x + y) :: st, h) := az_wp_iff
theorem az_s51_139 {a : Nat} {i : Int32} : az_p51 C Q (139, lv, .int i :: .ref a :: st, h) ↔ az_mr (h.1 a) 0 i.toInt (fun x => az_p51 C Q (140, lv, .int x :: st, h)) := az_wp_iff.trans az_go_ial
theorem az_s51_140 : az_p51 C Q (140, lv, st, h) ↔ az_ma (lv 0) (fun x => az_p51 C Q (141, lv, x :: st, h)) := az_wp_iff.trans az_go_lda
theorem az_s51_141 {a : Nat} : az_p51 C Q (141, lv, .ref a :: st, h) ↔ az_mf (h.1 a) 5 4 (fun v => az_p51 C Q (144, lv, v :: st, h)) := az_wp_iff.trans az_go_gf
theorem az_s51_144 : az_p51 C Q (144, lv, st, h) ↔ az_mi (lv 9) (fun x => az_p51 C Q (146, lv, .int x :: st, h)) := az_wp_iff.trans az_go_ldi
theorem az_s51_146 {a : Nat} {i : Int32} : az_p51 C Q (146, lv, .int i :: .ref a :: st, h) ↔ az_mr (h.1 a) 0 i.toInt (fun x => az_p51 C Q (147, lv, .int x :: st, h)) := az_wp_iff.trans az_go_ial
theorem az_s51_147 {x y : Int32} : az_p51 C Q (147, lv, .int y :: .int x :: st, h) ↔ (x ≤ y → az_p51 C Q (157, lv, st, h)) ∧ (¬ x ≤ y → az_p51 C Q (150, lv, st, h)) := az_wp_iff.trans (az_go_if2 az_d_eq)
theorem az_s51_150 : az_p51 C Q (150, lv, st, h) ↔ az_mi (lv 7) (fun x => az_p51 C Q (152, lv, .int x :: st, h)) := az_wp_iff.trans az_go_ldi
theorem az_s51_152 : az_p51 C Q (152, lv, st, h) ↔ az_mi (lv 10) (fun x => az_p51 C Q (154, lv, .int x :: st, h)) := az_wp_iff.trans az_go_ldi
theorem az_s51_154 {x y : Int32} : az_p51 C Q (154, lv, .int y :: .int x :: st, h) ↔ az_p51 C Q (155, lv, .int (x + y) :: st, h) := az_wp_iff
theorem az_s51_155 {x : Int32} : az_p51 C Q (155, lv, .int x :: st, h) ↔ az_p51 C Q (157, (az_s1 lv 9 (.int x)), st, h) := az_wp_iff
theorem az_s51_157 : az_p51 C Q (157, lv, st, h) ↔ az_mi (lv 10) (fun x => az_p51 C Q (160, (az_s1 lv 10 (.int (x + Int32.ofInt (1)))), st, h)) := az_wp_iff.trans az_go_inc
theorem az_s51_160 : az_p51 C Q (160, lv, st, h) ↔ az_p51 C Q (60, lv, st, h) := az_wp_iff
theorem az_s51_163 : az_p51 C Q (163, lv, st, h) ↔ az_ma (lv 0) (fun x => az_p51 C Q (164, lv, x :: st, h)) := az_wp_iff.trans az_go_lda
theorem az_s51_164 {a : Nat} : az_p51 C Q (164, lv, .ref a :: st, h) ↔ az_mf (h.1 a) 5 4 (fun v => az_p51 C Q (167, lv, v :: st, h)) := az_wp_iff.trans az_go_gf
theorem az_s51_167 : az_p51 C Q (167, lv, st, h) ↔ az_mi (lv 9) (fun x => az_p51 C Q (169, lv, .int x :: st, h)) := az_wp_iff.trans az_go_ldi
theorem az_s51_169 {x : Int32} {y : Nat} : az_p51 C Q (169, lv, .int x :: .ref y :: st, h) ↔ az_p51 C Q (170, lv, .int x :: .ref y :: .int x :: .ref y :: st, h) := az_wp_iff
theorem az_s51_169l {x : Int64} : az_p51 C Q (169, lv, .long x :: st, h) ↔ az_p51 C Q (170, lv, .long x :: .long x :: st, h) := az_wp_iff
theorem az_s51_170 {a : Nat} {i : Int32} : az_p51 C Q (170, lv, .int i :: .ref a :: st, h) ↔ az_mr (h.1 a) 0 i.toInt (fun x => az_p51 C Q (171, lv, .int x :: st, h)) := az_wp_iff.trans az_go_ial
theorem az_s51_171 : az_p51 C Q (171, lv, st, h) ↔ az_mi (lv 8) (fun x => az_p51 C Q (173, lv, .int x :: st, h)) := az_wp_iff.trans az_go_ldi
theorem az_s51_173 {x y : Int32} : az_p51 C Q (173, lv, .int y :: .int x :: st, h) ↔ az_p51 C Q (174, lv, .int (x + y) :: st, h) := az_wp_iff
theorem az_s51_174 {a : Nat} {i x : Int32} : az_p51 C Q (174, lv, .int x :: .int i :: .ref a :: st, h) ↔ az_mw' (h.1 a) i.toInt x (fun c => az_p51 C Q (175, lv, st, az_uh h a c)) := az_wp_iff.trans az_go_ias
theorem az_s51_175 : az_p51 C Q (175, lv, [], h) ↔ Q none h := az_wp_iff
def az_p52 (C : az_Cl) (Q : Option Value → az_H → Prop) : az_S → Prop := az_wp C (fun _ => none) (some .int) (az_fn az_k52) Q
theorem az_s52_0 : az_p52 C Q (0, lv, st, h) ↔ az_ml (lv 2) (fun x => az_p52 C Q (1, lv, .long x :: st, h)) := az_wp_iff.trans az_go_ldl
theorem az_s52_1 : az_p52 C Q (1, lv, st, h) ↔ az_p52 C Q (2, lv, .long (Int64.ofInt (0)) :: st, h) := az_wp_iff
theorem az_s52_2 {x y : Int64} : az_p52 C Q (2, lv, .long y :: .long x :: st, h) ↔ az_p52 C Q (3, lv, .int (lg_cmp x y) :: st, h) := az_wp_iff
theorem az_s52_3 {x : Int32} : az_p52 C Q (3, lv, .int x :: st, h) ↔ (0 < x → az_p52 C Q (8, lv, st, h)) ∧ (¬ 0 < x → az_p52 C Q (6, lv, st, h)) := az_wp_iff.trans (az_go_if1 az_d_eq)
theorem az_s52_6 : az_p52 C Q (6, lv, st, h) ↔ az_p52 C Q (7, lv, .int (Int32.ofInt (0)) :: st, h) := az_wp_iff
theorem az_s52_7 {x : Int32} : az_p52 C Q (7, lv, [.int x], h) ↔ Q (some (.int x)) h := az_wp_iff
theorem az_s52_8 : az_p52 C Q (8, lv, st, h) ↔ az_ml (lv 0) (fun x => az_p52 C Q (9, lv, .long x :: st, h)) := az_wp_iff.trans az_go_ldl
theorem az_s52_9 : az_p52 C Q (9, lv, st, h) ↔ az_ml (lv 2) (fun x => az_p52 C Q (10, lv, .long x :: st, h)) := az_wp_iff.trans az_go_ldl
theorem az_s52_10 {x y : Int64} : az_p52 C Q (10, lv, .long y :: .long x :: st, h) ↔ ¬ y = 0 ∧ az_p52 C Q (11, lv, .long (x / y) :: st, h) := az_wp_iff.trans az_go_ldv
theorem az_s52_11 {x : Int64} : az_p52 C Q (11, lv, .long x :: st, h) ↔ az_p52 C Q (13, (az_s2 lv 4 (.long x)), st, h) := az_wp_iff
theorem az_s52_13 : az_p52 C Q (13, lv, st, h) ↔ az_p52 C Q (16, lv, .long (Int64.ofInt (2)) :: st, h) := az_wp_iff
theorem az_s52_16 : az_p52 C Q (16, lv, st, h) ↔ az_ml (lv 0) (fun x => az_p52 C Q (17, lv, .long x :: st, h)) := az_wp_iff.trans az_go_ldl
theorem az_s52_17 : az_p52 C Q (17, lv, st, h) ↔ az_ml (lv 4) (fun x => az_p52 C Q (19, lv, .long x :: st, h)) := az_wp_iff.trans az_go_ldl
theorem az_s52_19 : az_p52 C Q (19, lv, st, h) ↔ az_ml (lv 2) (fun x => az_p52 C Q (20, lv, .long x :: st, h)) := az_wp_iff.trans az_go_ldl
theorem az_s52_20 {x y : Int64} : az_p52 C Q (20, lv, .long y :: .long x :: st, h) ↔ az_p52 C Q (21, lv, .long (x * y) :: st, h) := az_wp_iff
theorem az_s52_21 {x y : Int64} : az_p52 C Q (21, lv, .long y :: .long x :: st, h) ↔ az_p52 C Q (22, lv, .long (x - y) :: st, h) := az_wp_iff
theorem az_s52_22 {x y : Int64} : az_p52 C Q (22, lv, .long y :: .long x :: st, h) ↔ az_p52 C Q (23, lv, .long (x * y) :: st, h) := az_wp_iff
theorem az_s52_23 {x : Int64} : az_p52 C Q (23, lv, .long x :: st, h) ↔ az_p52 C Q (25, (az_s2 lv 6 (.long x)), st, h) := az_wp_iff
theorem az_s52_25 : az_p52 C Q (25, lv, st, h) ↔ az_ml (lv 6) (fun x => az_p52 C Q (27, lv, .long x :: st, h)) := az_wp_iff.trans az_go_ldl
theorem az_s52_27 : az_p52 C Q (27, lv, st, h) ↔ az_ml (lv 2) (fun x => az_p52 C Q (28, lv, .long x :: st, h)) := az_wp_iff.trans az_go_ldl
theorem az_s52_28 {x y : Int64} : az_p52 C Q (28, lv, .long y :: .long x :: st, h) ↔ az_p52 C Q (29, lv, .int (lg_cmp x y) :: st, h) := az_wp_iff
theorem az_s52_29 {x : Int32} : az_p52 C Q (29, lv, .int x :: st, h) ↔ (0 < x → az_p52 C Q (50, lv, st, h)) ∧ (¬ 0 < x → az_p52 C Q (32, lv, st, h)) := az_wp_iff.trans (az_go_if1 az_d_eq)
theorem az_s52_32 : az_p52 C Q (32, lv, st, h) ↔ az_ml (lv 6) (fun x => az_p52 C Q (34, lv, .long x :: st, h)) := az_wp_iff.trans az_go_ldl
theorem az_s52_34 : az_p52 C Q (34, lv, st, h) ↔ az_ml (lv 2) (fun x => az_p52 C Q (35, lv, .long x :: st, h)) := az_wp_iff.trans az_go_ldl
theorem az_s52_35 {x y : Int64} : az_p52 C Q (35, lv, .long y :: .long x :: st, h) ↔ az_p52 C Q (36, lv, .int (lg_cmp x y) :: st, h) := az_wp_iff
theorem az_s52_36 {x : Int32} : az_p52 C Q (36, lv, .int x :: st, h) ↔ (¬ x = 0 → az_p52 C Q (54, lv, st, h)) ∧ (¬ ¬ x = 0 → az_p52 C Q (39, lv, st, h)) := az_wp_iff.trans (az_go_if1 az_d_eq)
theorem az_s52_39 : az_p52 C Q (39, lv, st, h) ↔ az_ml (lv 4) (fun x => az_p52 C Q (41, lv, .long x :: st, h)) := az_wp_iff.trans az_go_ldl
theorem az_s52_41 : az_p52 C Q (41, lv, st, h) ↔ az_p52 C Q (44, lv, .long (Int64.ofInt (2)) :: st, h) := az_wp_iff
theorem az_s52_44 {x y : Int64} : az_p52 C Q (44, lv, .long y :: .long x :: st, h) ↔ ¬ y = 0 ∧ az_p52 C Q (45, lv, .long (x - x / y * y) :: st, h) := az_wp_iff.trans (az_go_ldv (f := fun x y => x - x / y * y))
theorem az_s52_45 : az_p52 C Q (45, lv, st, h) ↔ az_p52 C Q (46, lv, .long (Int64.ofInt (0)) :: st, h) := az_wp_iff
theorem az_s52_46 {x y : Int64} : az_p52 C Q (46, lv, .long y :: .long x :: st, h) ↔ az_p52 C Q (47, lv, .int (lg_cmp x y) :: st, h) := az_wp_iff
theorem az_s52_47 {x : Int32} : az_p52 C Q (47, lv, .int x :: st, h) ↔ (x = 0 → az_p52 C Q (54, lv, st, h)) ∧ (¬ x = 0 → az_p52 C Q (50, lv, st, h)) := az_wp_iff.trans (az_go_if1 az_d_eq)
theorem az_s52_50 : az_p52 C Q (50, lv, st, h) ↔ az_p52 C Q (51, lv, .int (Int32.ofInt (1)) :: st, h) := az_wp_iff
theorem az_s52_51 : az_p52 C Q (51, lv, st, h) ↔ az_p52 C Q (55, lv, st, h) := az_wp_iff
theorem az_s52_54 : az_p52 C Q (54, lv, st, h) ↔ az_p52 C Q (55, lv, .int (Int32.ofInt (0)) :: st, h) := az_wp_iff
theorem az_s52_55 {x : Int32} : az_p52 C Q (55, lv, .int x :: st, h) ↔ az_p52 C Q (57, (az_s1 lv 8 (.int x)), st, h) := az_wp_iff
theorem az_s52_57 : az_p52 C Q (57, lv, st, h) ↔ az_mi (lv 8) (fun x => az_p52 C Q (59, lv, .int x :: st, h)) := az_wp_iff.trans az_go_ldi
theorem az_s52_59 {x : Int32} : az_p52 C Q (59, lv, .int x :: st, h) ↔ (x = 0 → az_p52 C Q (69, lv, st, h)) ∧ (¬ x = 0 → az_p52 C Q (62, lv, st, h)) := az_wp_iff.trans (az_go_if1 az_d_eq)
theorem az_s52_62 : az_p52 C Q (62, lv, st, h) ↔ az_ml (lv 4) (fun x => az_p52 C Q (64, lv, .long x :: st, h)) := az_wp_iff.trans az_go_ldl
theorem az_s52_64 : az_p52 C Q (64, lv, st, h) ↔ az_p52 C Q (65, lv, .long (Int64.ofInt (1)) :: st, h) := az_wp_iff
theorem az_s52_65 {x y : Int64} : az_p52 C Q (65, lv, .long y :: .long x :: st, h) ↔ az_p52 C Q (66, lv, .long (x + y) :: st, h) := az_wp_iff
theorem az_s52_66 : az_p52 C Q (66, lv, st, h) ↔ az_p52 C Q (71, lv, st, h) := az_wp_iff
theorem az_s52_69 : az_p52 C Q (69, lv, st, h) ↔ az_ml (lv 4) (fun x => az_p52 C Q (71, lv, .long x :: st, h)) := az_wp_iff.trans az_go_ldl
theorem az_s52_71 {x : Int64} : az_p52 C Q (71, lv, .long x :: st, h) ↔ az_p52 C Q (72, lv, .int x.toInt32 :: st, h) := az_wp_iff
theorem az_s52_72 {x : Int32} : az_p52 C Q (72, lv, [.int x], h) ↔ Q (some (.int x)) h := az_wp_iff
def az_p53 (C : az_Cl) (Q : Option Value → az_H → Prop) : az_S → Prop := az_wp C (fun _ => none) none (az_fn az_k53) Q
theorem az_s53_0 : az_p53 C Q (0, lv, st, h) ↔ az_ma (lv 0) (fun x => az_p53 C Q (1, lv, x :: st, h)) := az_wp_iff.trans az_go_lda
theorem az_s53_1 {a : Nat} : az_p53 C Q (1, lv, .ref a :: st, h) ↔ az_cat st ≤ 8 ∧ az_p53 C Q (4, lv, st, h) := az_wp_iff.trans az_go_if
theorem az_s53_4 : az_p53 C Q (4, lv, st, h) ↔ az_ma (lv 0) (fun x => az_p53 C Q (5, lv, x :: st, h)) := az_wp_iff.trans az_go_lda
theorem az_s53_5 : az_p53 C Q (5, lv, st, h) ↔ az_p53 C Q (7, lv, .int (Int32.ofInt (12)) :: st, h) := az_wp_iff
theorem az_s53_7 {n : Int32} : az_p53 C Q (7, lv, .int n :: st, h) ↔ (0 ≤ n.toInt ∧ n.toInt ≤ 65536) ∧ az_p53 C Q (9, lv, .ref h.2.1 :: st, az_nw h (az_ia 0 n.toInt.toNat (fun _ => 0)) n.toInt.toNat) := az_wp_iff.trans az_go_if
theorem az_s53_9 {a : Nat} {v : Value} : az_p53 C Q (9, lv, v :: .ref a :: st, h) ↔ az_mp (h.1 a) 6 0 3 v (fun c => az_p53 C Q (12, lv, st, az_uh h a c)) := az_wp_iff.trans az_go_pf
theorem az_s53_12 : az_p53 C Q (12, lv, st, h) ↔ az_ma (lv 0) (fun x => az_p53 C Q (13, lv, x :: st, h)) := az_wp_iff.trans az_go_lda
theorem az_s53_13 : az_p53 C Q (13, lv, st, h) ↔ az_p53 C Q (15, lv, .int (Int32.ofInt (12)) :: st, h) := az_wp_iff
theorem az_s53_15 {n : Int32} : az_p53 C Q (15, lv, .int n :: st, h) ↔ (0 ≤ n.toInt ∧ n.toInt ≤ 65536) ∧ az_p53 C Q (17, lv, .ref h.2.1 :: st, az_nw h (az_ia 0 n.toInt.toNat (fun _ => 0)) n.toInt.toNat) := az_wp_iff.trans az_go_if
theorem az_s53_17 {a : Nat} {v : Value} : az_p53 C Q (17, lv, v :: .ref a :: st, h) ↔ az_mp (h.1 a) 6 1 3 v (fun c => az_p53 C Q (20, lv, st, az_uh h a c)) := az_wp_iff.trans az_go_pf
theorem az_s53_20 : az_p53 C Q (20, lv, st, h) ↔ az_ma (lv 0) (fun x => az_p53 C Q (21, lv, x :: st, h)) := az_wp_iff.trans az_go_lda
theorem az_s53_21 : az_p53 C Q (21, lv, st, h) ↔ az_p53 C Q (23, lv, .int (Int32.ofInt (12)) :: st, h) := az_wp_iff
theorem az_s53_23 {n : Int32} : az_p53 C Q (23, lv, .int n :: st, h) ↔ (0 ≤ n.toInt ∧ n.toInt ≤ 65536) ∧ az_p53 C Q (25, lv, .ref h.2.1 :: st, az_nw h (az_ia 0 n.toInt.toNat (fun _ => 0)) n.toInt.toNat) := az_wp_iff.trans az_go_if
theorem az_s53_25 {a : Nat} {v : Value} : az_p53 C Q (25, lv, v :: .ref a :: st, h) ↔ az_mp (h.1 a) 6 2 3 v (fun c => az_p53 C Q (28, lv, st, az_uh h a c)) := az_wp_iff.trans az_go_pf
theorem az_s53_28 : az_p53 C Q (28, lv, [], h) ↔ Q none h := az_wp_iff
def az_p54 (C : az_Cl) (Q : Option Value → az_H → Prop) : az_S → Prop := az_wp C (fun _ => none) (some .int) (az_fn az_k54) Q
theorem az_s54_0 : az_p54 C Q (0, lv, st, h) ↔ az_mi (lv 1) (fun x => az_p54 C Q (1, lv, .int x :: st, h)) := az_wp_iff.trans az_go_ldi
theorem az_s54_1 {x : Int32} : az_p54 C Q (1, lv, .int x :: st, h) ↔ (x < 0 → az_p54 C Q (30, lv, st, h)) ∧ (¬ x < 0 → az_p54 C Q (4, lv, st, h)) := az_wp_iff.trans (az_go_if1 az_d_eq)
theorem az_s54_4 : az_p54 C Q (4, lv, st, h) ↔ az_mi (lv 1) (fun x => az_p54 C Q (5, lv, .int x :: st, h)) := az_wp_iff.trans az_go_ldi
theorem az_s54_5 : az_p54 C Q (5, lv, st, h) ↔ az_ma (lv 0) (fun x => az_p54 C Q (6, lv, x :: st, h)) := az_wp_iff.trans az_go_lda
theorem az_s54_6 {a : Nat} : az_p54 C Q (6, lv, .ref a :: st, h) ↔ az_mf (h.1 a) 6 3 (fun v => az_p54 C Q (9, lv, v :: st, h)) := az_wp_iff.trans az_go_gf
theorem az_s54_9 {x y : Int32} : az_p54 C Q (9, lv, .int y :: .int x :: st, h) ↔ (y ≤ x → az_p54 C Q (30, lv, st, h)) ∧ (¬ y ≤ x → az_p54 C Q (12, lv, st, h)) := az_wp_iff.trans (az_go_if2 az_d_eq)
theorem az_s54_12 : az_p54 C Q (12, lv, st, h) ↔ az_mi (lv 1) (fun x => az_p54 C Q (13, lv, .int x :: st, h)) := az_wp_iff.trans az_go_ldi
theorem az_s54_13 : az_p54 C Q (13, lv, st, h) ↔ az_ma (lv 0) (fun x => az_p54 C Q (14, lv, x :: st, h)) := az_wp_iff.trans az_go_lda
theorem az_s54_14 {a : Nat} : az_p54 C Q (14, lv, .ref a :: st, h) ↔ az_mf (h.1 a) 6 2 (fun v => az_p54 C Q (17, lv, v :: st, h)) := az_wp_iff.trans az_go_gf
theorem az_s54_17 {a : Nat} : az_p54 C Q (17, lv, .ref a :: st, h) ↔ az_mn (h.1 a) (fun x => az_p54 C Q (18, lv, .int x :: st, h)) := az_wp_iff.trans az_go_aln
theorem az_s54_18 {x y : Int32} : az_p54 C Q (18, lv, .int y :: .int x :: st, h) ↔ (y ≤ x → az_p54 C Q (30, lv, st, h)) ∧ (¬ y ≤ x → az_p54 C Q (21, lv, st, h)) := az_wp_iff.trans (az_go_if2 az_d_eq)
theorem az_s54_21 : az_p54 C Q (21, lv, st, h) ↔ az_ma (lv 0) (fun x => az_p54 C Q (22, lv, x :: st, h)) := az_wp_iff.trans az_go_lda
theorem az_s54_22 {a : Nat} : az_p54 C Q (22, lv, .ref a :: st, h) ↔ az_mf (h.1 a) 6 2 (fun v => az_p54 C Q (25, lv, v :: st, h)) := az_wp_iff.trans az_go_gf
theorem az_s54_25 : az_p54 C Q (25, lv, st, h) ↔ az_mi (lv 1) (fun x => az_p54 C Q (26, lv, .int x :: st, h)) := az_wp_iff.trans az_go_ldi
theorem az_s54_26 {a : Nat} {i : Int32} : az_p54 C Q (26, lv, .int i :: .ref a :: st, h) ↔ az_mr (h.1 a) 0 i.toInt (fun x => az_p54 C Q (27, lv, .int x :: st, h)) := az_wp_iff.trans az_go_ial
theorem az_s54_27 : az_p54 C Q (27, lv, st, h) ↔ az_p54 C Q (31, lv, st, h) := az_wp_iff
theorem az_s54_30 : az_p54 C Q (30, lv, st, h) ↔ az_p54 C Q (31, lv, .int (Int32.ofInt (-1)) :: st, h) := az_wp_iff
theorem az_s54_31 {x : Int32} : az_p54 C Q (31, lv, [.int x], h) ↔ Q (some (.int x)) h := az_wp_iff
def az_p55 (C : az_Cl) (Q : Option Value → az_H → Prop) : az_S → Prop := az_wp C (fun _ => none) none (az_fn az_k55) Q
theorem az_s55_0 : az_p55 C Q (0, lv, st, h) ↔ az_ma (lv 0) (fun x => az_p55 C Q (1, lv, x :: st, h)) := az_wp_iff.trans az_go_lda
theorem az_s55_1 : az_p55 C Q (1, lv, st, h) ↔ az_p55 C Q (2, lv, .int (Int32.ofInt (0)) :: st, h) := az_wp_iff
theorem az_s55_2 {a : Nat} {v : Value} : az_p55 C Q (2, lv, v :: .ref a :: st, h) ↔ az_mp (h.1 a) 6 3 0 v (fun c => az_p55 C Q (5, lv, st, az_uh h a c)) := az_wp_iff.trans az_go_pf
theorem az_s55_5 : az_p55 C Q (5, lv, st, h) ↔ az_p55 C Q (6, lv, .int (Int32.ofInt (0)) :: st, h) := az_wp_iff
theorem az_s55_6 {x : Int32} : az_p55 C Q (6, lv, .int x :: st, h) ↔ az_p55 C Q (7, (az_s1 lv 2 (.int x)), st, h) := az_wp_iff
theorem az_s55_7 : az_p55 C Q (7, lv, st, h) ↔ az_mi (lv 2) (fun x => az_p55 C Q (8, lv, .int x :: st, h)) := az_wp_iff.trans az_go_ldi
theorem az_s55_8 : az_p55 C Q (8, lv, st, h) ↔ az_p55 C Q (10, lv, .int (Int32.ofInt (12)) :: st, h) := az_wp_iff
theorem az_s55_10 {x y : Int32} : az_p55 C Q (10, lv, .int y :: .int x :: st, h) ↔ (y ≤ x → az_p55 C Q (34, lv, st, h)) ∧ (¬ y ≤ x → az_p55 C Q (13, lv, st, h)) := az_wp_iff.trans (az_go_if2 az_d_eq)
theorem az_s55_13 : az_p55 C Q (13, lv, st, h) ↔ az_ma (lv 0) (fun x => az_p55 C Q (14, lv, x :: st, h)) := az_wp_iff.trans az_go_lda
theorem az_s55_14 {a : Nat} : az_p55 C Q (14, lv, .ref a :: st, h) ↔ az_mf (h.1 a) 6 0 (fun v => az_p55 C Q (17, lv, v :: st, h)) := az_wp_iff.trans az_go_gf
theorem az_s55_17 : az_p55 C Q (17, lv, st, h) ↔ az_mi (lv 2) (fun x => az_p55 C Q (18, lv, .int x :: st, h)) := az_wp_iff.trans az_go_ldi
theorem az_s55_18 : az_p55 C Q (18, lv, st, h) ↔ az_ma (lv 1) (fun x => az_p55 C Q (19, lv, x :: st, h)) := az_wp_iff.trans az_go_lda
theorem az_s55_19 : az_p55 C Q (19, lv, st, h) ↔ az_ma (lv 1) (fun x => az_p55 C Q (20, lv, x :: st, h)) := az_wp_iff.trans az_go_lda
theorem az_s55_20 : az_p55 C Q (20, lv, st, h) ↔ az_mi (lv 2) (fun x => az_p55 C Q (21, lv, .int x :: st, h)) := az_wp_iff.trans az_go_ldi
theorem az_s55_21 {a : Nat} {v1 : Value} : az_p55 C Q (21, lv, v1 :: .ref a :: st, h) ↔ az_isob (h.1 a) 2 = true ∧ az_cat st ≤ 8 ∧ az_mc C 14 [.ref a, v1] h (fun v h' => az_p55 C Q (24, lv, v ++ st, h')) := az_wp_iff.trans (az_go_if.trans (and_congr Iff.rfl az_go_call))
theorem az_s55_24 {v1 v2 : Value} : az_p55 C Q (24, lv, v2 :: v1 :: st, h) ↔ az_cat st ≤ 8 ∧ az_mc C 56 [v1, v2] h (fun v h' => az_p55 C Q (27, lv, v ++ st, h')) := az_wp_iff.trans az_go_call
theorem az_s55_27 {a : Nat} {i x : Int32} : az_p55 C Q (27, lv, .int x :: .int i :: .ref a :: st, h) ↔ az_mw' (h.1 a) i.toInt x (fun c => az_p55 C Q (28, lv, st, az_uh h a c)) := az_wp_iff.trans az_go_ias
theorem az_s55_28 : az_p55 C Q (28, lv, st, h) ↔ az_mi (lv 2) (fun x => az_p55 C Q (31, (az_s1 lv 2 (.int (x + Int32.ofInt (1)))), st, h)) := az_wp_iff.trans az_go_inc
theorem az_s55_31 : az_p55 C Q (31, lv, st, h) ↔ az_p55 C Q (7, lv, st, h) := az_wp_iff
theorem az_s55_34 : az_p55 C Q (34, lv, st, h) ↔ az_p55 C Q (35, lv, .int (Int32.ofInt (0)) :: st, h) := az_wp_iff
theorem az_s55_35 {x : Int32} : az_p55 C Q (35, lv, .int x :: st, h) ↔ az_p55 C Q (36, (az_s1 lv 2 (.int x)), st, h) := az_wp_iff
theorem az_s55_36 : az_p55 C Q (36, lv, st, h) ↔ az_mi (lv 2) (fun x => az_p55 C Q (37, lv, .int x :: st, h)) := az_wp_iff.trans az_go_ldi
theorem az_s55_37 : az_p55 C Q (37, lv, st, h) ↔ az_p55 C Q (39, lv, .int (Int32.ofInt (12)) :: st, h) := az_wp_iff
theorem az_s55_39 {x y : Int32} : az_p55 C Q (39, lv, .int y :: .int x :: st, h) ↔ (y ≤ x → az_p55 C Q (79, lv, st, h)) ∧ (¬ y ≤ x → az_p55 C Q (42, lv, st, h)) := az_wp_iff.trans (az_go_if2 az_d_eq)
theorem az_s55_42 : az_p55 C Q (42, lv, st, h) ↔ az_ma (lv 0) (fun x => az_p55 C Q (43, lv, x :: st, h)) := az_wp_iff.trans az_go_lda
theorem az_s55_43 : az_p55 C Q (43, lv, st, h) ↔ az_mi (lv 2) (fun x => az_p55 C Q (44, lv, .int x :: st, h)) := az_wp_iff.trans az_go_ldi
theorem az_s55_44 {a : Nat} {v1 : Value} : az_p55 C Q (44, lv, v1 :: .ref a :: st, h) ↔ az_isob (h.1 a) 6 = true ∧ az_cat st ≤ 8 ∧ az_mc C 58 [.ref a, v1] h (fun v h' => az_p55 C Q (47, lv, v ++ st, h')) := az_wp_iff.trans (az_go_if.trans (and_congr Iff.rfl az_go_call))
theorem az_s55_47 {x : Int32} : az_p55 C Q (47, lv, .int x :: st, h) ↔ az_p55 C Q (48, (az_s1 lv 3 (.int x)), st, h) := az_wp_iff
theorem az_s55_48 : az_p55 C Q (48, lv, st, h) ↔ az_mi (lv 3) (fun x => az_p55 C Q (49, lv, .int x :: st, h)) := az_wp_iff.trans az_go_ldi
theorem az_s55_49 {x : Int32} : az_p55 C Q (49, lv, .int x :: st, h) ↔ (x ≤ 0 → az_p55 C Q (73, lv, st, h)) ∧ (¬ x ≤ 0 → az_p55 C Q (52, lv, st, h)) := az_wp_iff.trans (az_go_if1 az_d_eq)
theorem az_s55_52 : az_p55 C Q (52, lv, st, h) ↔ az_ma (lv 0) (fun x => az_p55 C Q (53, lv, x :: st, h)) := az_wp_iff.trans az_go_lda
theorem az_s55_53 {a : Nat} : az_p55 C Q (53, lv, .ref a :: st, h) ↔ az_mf (h.1 a) 6 3 (fun v => az_p55 C Q (56, lv, v :: st, h)) := az_wp_iff.trans az_go_gf
theorem az_s55_56 {x : Int32} : az_p55 C Q (56, lv, .int x :: st, h) ↔ (x = 0 → az_p55 C Q (67, lv, st, h)) ∧ (¬ x = 0 → az_p55 C Q (59, lv, st, h)) := az_wp_iff.trans (az_go_if1 az_d_eq)
theorem az_s55_59 : az_p55 C Q (59, lv, st, h) ↔ az_mi (lv 3) (fun x => az_p55 C Q (60, lv, .int x :: st, h)) := az_wp_iff.trans az_go_ldi
theorem az_s55_60 : az_p55 C Q (60, lv, st, h) ↔ az_ma (lv 0) (fun x => az_p55 C Q (61, lv, x :: st, h)) := az_wp_iff.trans az_go_lda
theorem az_s55_61 {a : Nat} : az_p55 C Q (61, lv, .ref a :: st, h) ↔ az_mf (h.1 a) 6 3 (fun v => az_p55 C Q (64, lv, v :: st, h)) := az_wp_iff.trans az_go_gf
theorem az_s55_64 {x y : Int32} : az_p55 C Q (64, lv, .int y :: .int x :: st, h) ↔ (y ≤ x → az_p55 C Q (73, lv, st, h)) ∧ (¬ y ≤ x → az_p55 C Q (67, lv, st, h)) := az_wp_iff.trans (az_go_if2 az_d_eq)
theorem az_s55_67 : az_p55 C Q (67, lv, st, h) ↔ az_ma (lv 0) (fun x => az_p55 C Q (68, lv, x :: st, h)) := az_wp_iff.trans az_go_lda
theorem az_s55_68 : az_p55 C Q (68, lv, st, h) ↔ az_mi (lv 2) (fun x => az_p55 C Q (69, lv, .int x :: st, h)) := az_wp_iff.trans az_go_ldi
theorem az_s55_69 : az_p55 C Q (69, lv, st, h) ↔ az_mi (lv 3) (fun x => az_p55 C Q (70, lv, .int x :: st, h)) := az_wp_iff.trans az_go_ldi
theorem az_s55_70 {a : Nat} {v1 v2 : Value} : az_p55 C Q (70, lv, v2 :: v1 :: .ref a :: st, h) ↔ az_isob (h.1 a) 6 = true ∧ az_cat st ≤ 8 ∧ az_mc C 59 [.ref a, v1, v2] h (fun v h' => az_p55 C Q (73, lv, v ++ st, h')) := az_wp_iff.trans (az_go_if.trans (and_congr Iff.rfl az_go_call))
theorem az_s55_73 : az_p55 C Q (73, lv, st, h) ↔ az_mi (lv 2) (fun x => az_p55 C Q (76, (az_s1 lv 2 (.int (x + Int32.ofInt (1)))), st, h)) := az_wp_iff.trans az_go_inc
theorem az_s55_76 : az_p55 C Q (76, lv, st, h) ↔ az_p55 C Q (36, lv, st, h) := az_wp_iff
theorem az_s55_79 : az_p55 C Q (79, lv, [], h) ↔ Q none h := az_wp_iff
def az_p56 (C : az_Cl) (Q : Option Value → az_H → Prop) : az_S → Prop := az_wp C (fun _ => none) (some .int) (az_fn az_k56) Q
theorem az_s56_0 : az_p56 C Q (0, lv, st, h) ↔ az_ma (lv 1) (fun x => az_p56 C Q (1, lv, x :: st, h)) := az_wp_iff.trans az_go_lda
theorem az_s56_1n : az_p56 C Q (1, lv, .null :: st, h) ↔ az_p56 C Q (12, lv, st, h) := az_wp_iff
theorem az_s56_1 {x : Nat} : az_p56 C Q (1, lv, .ref x :: st, h) ↔ az_p56 C Q (4, lv, st, h) := az_wp_iff
theorem az_s56_4 : az_p56 C Q (4, lv, st, h) ↔ az_ma (lv 1) (fun x => az_p56 C Q (5, lv, x :: st, h)) := az_wp_iff.trans az_go_lda
theorem az_s56_5 {a : Nat} : az_p56 C Q (5, lv, .ref a :: st, h) ↔ az_mf (h.1 a) 8 11 (fun v => az_p56 C Q (8, lv, v :: st, h)) := az_wp_iff.trans az_go_gf
theorem az_s56_8 : az_p56 C Q (8, lv, st, h) ↔ az_p56 C Q (9, lv, .int (Int32.ofInt (2)) :: st, h) := az_wp_iff
theorem az_s56_9 {x y : Int32} : az_p56 C Q (9, lv, .int y :: .int x :: st, h) ↔ (x = y → az_p56 C Q (14, lv, st, h)) ∧ (¬ x = y → az_p56 C Q (12, lv, st, h)) := az_wp_iff.trans (az_go_if2 az_d_eq)
theorem az_s56_12 : az_p56 C Q (12, lv, st, h) ↔ az_p56 C Q (13, lv, .int (Int32.ofInt (0)) :: st, h) := az_wp_iff
theorem az_s56_13 {x : Int32} : az_p56 C Q (13, lv, [.int x], h) ↔ Q (some (.int x)) h := az_wp_iff
theorem az_s56_14 : az_p56 C Q (14, lv, st, h) ↔ az_p56 C Q (15, lv, .int (Int32.ofInt (0)) :: st, h) := az_wp_iff
theorem az_s56_15 {x : Int32} : az_p56 C Q (15, lv, .int x :: st, h) ↔ az_p56 C Q (16, (az_s1 lv 2 (.int x)), st, h) := az_wp_iff
theorem az_s56_16 : az_p56 C Q (16, lv, st, h) ↔ az_p56 C Q (17, lv, .int (Int32.ofInt (0)) :: st, h) := az_wp_iff
theorem az_s56_17 {x : Int32} : az_p56 C Q (17, lv, .int x :: st, h) ↔ az_p56 C Q (18, (az_s1 lv 3 (.int x)), st, h) := az_wp_iff
theorem az_s56_18 : az_p56 C Q (18, lv, st, h) ↔ az_mi (lv 3) (fun x => az_p56 C Q (19, lv, .int x :: st, h)) := az_wp_iff.trans az_go_ldi
theorem az_s56_19 : az_p56 C Q (19, lv, st, h) ↔ az_ma (lv 1) (fun x => az_p56 C Q (20, lv, x :: st, h)) := az_wp_iff.trans az_go_lda
theorem az_s56_20 {a : Nat} : az_p56 C Q (20, lv, .ref a :: st, h) ↔ az_mf (h.1 a) 8 8 (fun v => az_p56 C Q (23, lv, v :: st, h)) := az_wp_iff.trans az_go_gf
theorem az_s56_23 {x y : Int32} : az_p56 C Q (23, lv, .int y :: .int x :: st, h) ↔ (y ≤ x → az_p56 C Q (64, lv, st, h)) ∧ (¬ y ≤ x → az_p56 C Q (26, lv, st, h)) := az_wp_iff.trans (az_go_if2 az_d_eq)
theorem az_s56_26 : az_p56 C Q (26, lv, st, h) ↔ az_ma (lv 1) (fun x => az_p56 C Q (27, lv, x :: st, h)) := az_wp_iff.trans az_go_lda
theorem az_s56_27 {a : Nat} : az_p56 C Q (27, lv, .ref a :: st, h) ↔ az_mf (h.1 a) 8 18 (fun v => az_p56 C Q (30, lv, v :: st, h)) := az_wp_iff.trans az_go_gf
theorem az_s56_30 : az_p56 C Q (30, lv, st, h) ↔ az_mi (lv 3) (fun x => az_p56 C Q (31, lv, .int x :: st, h)) := az_wp_iff.trans az_go_ldi
theorem az_s56_31 {a : Nat} {v1 : Value} : az_p56 C Q (31, lv, v1 :: .ref a :: st, h) ↔ az_isob (h.1 a) 4 = true ∧ az_cat st ≤ 8 ∧ az_mc C 34 [.ref a, v1] h (fun v h' => az_p56 C Q (34, lv, v ++ st, h')) := az_wp_iff.trans (az_go_if.trans (and_congr Iff.rfl az_go_call))
theorem az_s56_34 {x : Int32} : az_p56 C Q (34, lv, .int x :: st, h) ↔ (x = 0 → az_p56 C Q (58, lv, st, h)) ∧ (¬ x = 0 → az_p56 C Q (37, lv, st, h)) := az_wp_iff.trans (az_go_if1 az_d_eq)
theorem az_s56_37 : az_p56 C Q (37, lv, st, h) ↔ az_ma (lv 0) (fun x => az_p56 C Q (38, lv, x :: st, h)) := az_wp_iff.trans az_go_lda
theorem az_s56_38 : az_p56 C Q (38, lv, st, h) ↔ az_ma (lv 1) (fun x => az_p56 C Q (39, lv, x :: st, h)) := az_wp_iff.trans az_go_lda
theorem az_s56_39 : az_p56 C Q (39, lv, st, h) ↔ az_mi (lv 3) (fun x => az_p56 C Q (40, lv, .int x :: st, h)) := az_wp_iff.trans az_go_ldi
theorem az_s56_40 {a : Nat} {v1 v2 : Value} : az_p56 C Q (40, lv, v2 :: v1 :: .ref a :: st, h) ↔ az_isob (h.1 a) 2 = true ∧ az_cat st ≤ 8 ∧ az_mc C 20 [.ref a, v1, v2] h (fun v h' => az_p56 C Q (43, lv, v ++ st, h')) := az_wp_iff.trans (az_go_if.trans (and_congr Iff.rfl az_go_call))
theorem az_s56_43 {x : Int32} : az_p56 C Q (43, lv, .int x :: st, h) ↔ (x = 0 → az_p56 C Q (58, lv, st, h)) ∧ (¬ x = 0 → az_p56 C Q (46, lv, st, h)) := az_wp_iff.trans (az_go_if1 az_d_eq)
theorem az_s56_46 : az_p56 C Q (46, lv, st, h) ↔ az_mi (lv 2) (fun x => az_p56 C Q (47, lv, .int x :: st, h)) := az_wp_iff.trans az_go_ldi
theorem az_s56_47 : az_p56 C Q (47, lv, st, h) ↔ az_ma (lv 0) (fun x => az_p56 C Q (48, lv, x :: st, h)) := az_wp_iff.trans az_go_lda
theorem az_s56_48 : az_p56 C Q (48, lv, st, h) ↔ az_ma (lv 1) (fun x => az_p56 C Q (49, lv, x :: st, h)) := az_wp_iff.trans az_go_lda
theorem az_s56_49 : az_p56 C Q (49, lv, st, h) ↔ az_mi (lv 3) (fun x => az_p56 C Q (50, lv, .int x :: st, h)) := az_wp_iff.trans az_go_ldi
theorem az_s56_50 {a : Nat} {v1 : Value} : az_p56 C Q (50, lv, v1 :: .ref a :: st, h) ↔ az_isob (h.1 a) 8 = true ∧ az_cat st ≤ 8 ∧ az_mc C 86 [.ref a, v1] h (fun v h' => az_p56 C Q (53, lv, v ++ st, h')) := az_wp_iff.trans (az_go_if.trans (and_congr Iff.rfl az_go_call))
theorem az_s56_53 {v1 v2 : Value} : az_p56 C Q (53, lv, v2 :: v1 :: st, h) ↔ az_cat st ≤ 8 ∧ az_mc C 57 [v1, v2] h (fun v h' => az_p56 C Q (56, lv, v ++ st, h')) := az_wp_iff.trans az_go_call
theorem az_s56_56 {x y : Int32} : az_p56 C Q (56, lv, .int y :: .int x :: st, h) ↔ az_p56 C Q (57, lv, .int (x ||| y) :: st, h) := az_wp_iff
theorem az_s56_57 {x : Int32} : az_p56 C Q (57, lv, .int x :: st, h) ↔ az_p56 C Q (58, (az_s1 lv 2 (.int x)), st, h) := az_wp_iff
theorem az_s56_58 : az_p56 C Q (58, lv, st, h) ↔ az_mi (lv 3) (fun x => az_p56 C Q (61, (az_s1 lv 3 (.int (x + Int32.ofInt (1)))), st, h)) := az_wp_iff.trans az_go_inc
theorem az_s56_61 : az_p56 C Q (61, lv, st, h) ↔ az_p56 C Q (18, lv, st, h) := az_wp_iff
theorem az_s56_64 : az_p56 C Q (64, lv, st, h) ↔ az_mi (lv 2) (fun x => az_p56 C Q (65, lv, .int x :: st, h)) := az_wp_iff.trans az_go_ldi
theorem az_s56_65 {x : Int32} : az_p56 C Q (65, lv, [.int x], h) ↔ Q (some (.int x)) h := az_wp_iff
def az_p57 (C : az_Cl) (Q : Option Value → az_H → Prop) : az_S → Prop := az_wp C (fun _ => none) (some .int) (az_fn az_k57) Q
theorem az_s57_0 : az_p57 C Q (0, lv, st, h) ↔ az_p57 C Q (1, lv, .int (Int32.ofInt (0)) :: st, h) := az_wp_iff
theorem az_s57_1 {x : Int32} : az_p57 C Q (1, lv, .int x :: st, h) ↔ az_p57 C Q (2, (az_s1 lv 2 (.int x)), st, h) := az_wp_iff
theorem az_s57_2 : az_p57 C Q (2, lv, st, h) ↔ az_p57 C Q (3, lv, .int (Int32.ofInt (0)) :: st, h) := az_wp_iff
theorem az_s57_3 {x : Int32} : az_p57 C Q (3, lv, .int x :: st, h) ↔ az_p57 C Q (4, (az_s1 lv 3 (.int x)), st, h) := az_wp_iff
theorem az_s57_4 : az_p57 C Q (4, lv, st, h) ↔ az_mi (lv 3) (fun x => az_p57 C Q (5, lv, .int x :: st, h)) := az_wp_iff.trans az_go_ldi
theorem az_s57_5 : az_p57 C Q (5, lv, st, h) ↔ az_p57 C Q (7, lv, .int (Int32.ofInt (12)) :: st, h) := az_wp_iff
theorem az_s57_7 {x y : Int32} : az_p57 C Q (7, lv, .int y :: .int x :: st, h) ↔ (y ≤ x → az_p57 C Q (52, lv, st, h)) ∧ (¬ y ≤ x → az_p57 C Q (10, lv, st, h)) := az_wp_iff.trans (az_go_if2 az_d_eq)
theorem az_s57_10 : az_p57 C Q (10, lv, st, h) ↔ az_ma (lv 0) (fun x => az_p57 C Q (11, lv, x :: st, h)) := az_wp_iff.trans az_go_lda
theorem az_s57_11 : az_p57 C Q (11, lv, st, h) ↔ az_mi (lv 3) (fun x => az_p57 C Q (12, lv, .int x :: st, h)) := az_wp_iff.trans az_go_ldi
theorem az_s57_12 {a : Nat} {v1 : Value} : az_p57 C Q (12, lv, v1 :: .ref a :: st, h) ↔ az_isob (h.1 a) 2 = true ∧ az_cat st ≤ 8 ∧ az_mc C 14 [.ref a, v1] h (fun v h' => az_p57 C Q (15, lv, v ++ st, h')) := az_wp_iff.trans (az_go_if.trans (and_congr Iff.rfl az_go_call))
theorem az_s57_15 {x : Nat} : az_p57 C Q (15, lv, .ref x :: st, h) ↔ az_p57 C Q (17, (az_s1 lv 4 (.ref x)), st, h) := az_wp_iff
theorem az_s57_15n : az_p57 C Q (15, lv, .null :: st, h) ↔ az_p57 C Q (17, (az_s1 lv 4 .null), st, h) := az_wp_iff
theorem az_s57_17 : az_p57 C Q (17, lv, st, h) ↔ az_ma (lv 4) (fun x => az_p57 C Q (19, lv, x :: st, h)) := az_wp_iff.trans az_go_lda
theorem az_s57_19n : az_p57 C Q (19, lv, .null :: st, h) ↔ az_p57 C Q (46, lv, st, h) := az_wp_iff
theorem az_s57_19 {x : Nat} : az_p57 C Q (19, lv, .ref x :: st, h) ↔ az_p57 C Q (22, lv, st, h) := az_wp_iff
theorem az_s57_22 : az_p57 C Q (22, lv, st, h) ↔ az_ma (lv 4) (fun x => az_p57 C Q (24, lv, x :: st, h)) := az_wp_iff.trans az_go_lda
theorem az_s57_24 {a : Nat} : az_p57 C Q (24, lv, .ref a :: st, h) ↔ az_mf (h.1 a) 8 11 (fun v => az_p57 C Q (27, lv, v :: st, h)) := az_wp_iff.trans az_go_gf
theorem az_s57_27 : az_p57 C Q (27, lv, st, h) ↔ az_p57 C Q (28, lv, .int (Int32.ofInt (2)) :: st, h) := az_wp_iff
theorem az_s57_28 {x y : Int32} : az_p57 C Q (28, lv, .int y :: .int x :: st, h) ↔ (¬ x = y → az_p57 C Q (46, lv, st, h)) ∧ (¬ ¬ x = y → az_p57 C Q (31, lv, st, h)) := az_wp_iff.trans (az_go_if2 az_d_eq)
theorem az_s57_31 : az_p57 C Q (31, lv, st, h) ↔ az_ma (lv 4) (fun x => az_p57 C Q (33, lv, x :: st, h)) := az_wp_iff.trans az_go_lda
theorem az_s57_33 : az_p57 C Q (33, lv, st, h) ↔ az_mi (lv 1) (fun x => az_p57 C Q (34, lv, .int x :: st, h)) := az_wp_iff.trans az_go_ldi
theorem az_s57_34 {a : Nat} {v1 : Value} : az_p57 C Q (34, lv, v1 :: .ref a :: st, h) ↔ az_isob (h.1 a) 8 = true ∧ az_cat st ≤ 8 ∧ az_mc C 89 [.ref a, v1] h (fun v h' => az_p57 C Q (37, lv, v ++ st, h')) := az_wp_iff.trans (az_go_if.trans (and_congr Iff.rfl az_go_call))
theorem az_s57_37 {x : Int32} : az_p57 C Q (37, lv, .int x :: st, h) ↔ (x = 0 → az_p57 C Q (46, lv, st, h)) ∧ (¬ x = 0 → az_p57 C Q (40, lv, st, h)) := az_wp_iff.trans (az_go_if1 az_d_eq)
theorem az_s57_40 : az_p57 C Q (40, lv, st, h) ↔ az_mi (lv 2) (fun x => az_p57 C Q (41, lv, .int x :: st, h)) := az_wp_iff.trans az_go_ldi
theorem az_s57_41 : az_p57 C Q (41, lv, st, h) ↔ az_p57 C Q (42, lv, .int (Int32.ofInt (1)) :: st, h) := az_wp_iff
theorem az_s57_42 : az_p57 C Q (42, lv, st, h) ↔ az_mi (lv 3) (fun x => az_p57 C Q (43, lv, .int x :: st, h)) := az_wp_iff.trans az_go_ldi
theorem az_s57_43 {x y : Int32} : az_p57 C Q (43, lv, .int y :: .int x :: st, h) ↔ az_p57 C Q (44, lv, .int (x <<< (y &&& 31)) :: st, h) := az_wp_iff
theorem az_s57_44 {x y : Int32} : az_p57 C Q (44, lv, .int y :: .int x :: st, h) ↔ az_p57 C Q (45, lv, .int (x ||| y) :: st, h) := az_wp_iff
theorem az_s57_45 {x : Int32} : az_p57 C Q (45, lv, .int x :: st, h) ↔ az_p57 C Q (46, (az_s1 lv 2 (.int x)), st, h) := az_wp_iff
theorem az_s57_46 : az_p57 C Q (46, lv, st, h) ↔ az_mi (lv 3) (fun x => az_p57 C Q (49, (az_s1 lv 3 (.int (x + Int32.ofInt (1)))), st, h)) := az_wp_iff.trans az_go_inc
theorem az_s57_49 : az_p57 C Q (49, lv, st, h) ↔ az_p57 C Q (4, lv, st, h) := az_wp_iff
theorem az_s57_52 : az_p57 C Q (52, lv, st, h) ↔ az_mi (lv 2) (fun x => az_p57 C Q (53, lv, .int x :: st, h)) := az_wp_iff.trans az_go_ldi
theorem az_s57_53 {x : Int32} : az_p57 C Q (53, lv, [.int x], h) ↔ Q (some (.int x)) h := az_wp_iff
def az_p58 (C : az_Cl) (Q : Option Value → az_H → Prop) : az_S → Prop := az_wp C (fun _ => none) (some .int) (az_fn az_k58) Q
theorem az_s58_0 : az_p58 C Q (0, lv, st, h) ↔ az_ma (lv 0) (fun x => az_p58 C Q (1, lv, x :: st, h)) := az_wp_iff.trans az_go_lda
theorem az_s58_1 {a : Nat} : az_p58 C Q (1, lv, .ref a :: st, h) ↔ az_mf (h.1 a) 6 1 (fun v => az_p58 C Q (4, lv, v :: st, h)) := az_wp_iff.trans az_go_gf
theorem az_s58_4 : az_p58 C Q (4, lv, st, h) ↔ az_p58 C Q (5, lv, .int (Int32.ofInt (0)) :: st, h) := az_wp_iff
theorem az_s58_5 {v1 v2 : Value} : az_p58 C Q (5, lv, v2 :: v1 :: st, h) ↔ az_cat st ≤ 8 ∧ az_mc C 190 [v1, v2] h (fun v h' => az_p58 C Q (8, lv, v ++ st, h')) := az_wp_iff.trans az_go_call
theorem az_s58_8 : az_p58 C Q (8, lv, st, h) ↔ az_p58 C Q (9, lv, .int (Int32.ofInt (1)) :: st, h) := az_wp_iff
theorem az_s58_9 : az_p58 C Q (9, lv, st, h) ↔ az_mi (lv 1) (fun x => az_p58 C Q (10, lv, .int x :: st, h)) := az_wp_iff.trans az_go_ldi
theorem az_s58_10 {x y : Int32} : az_p58 C Q (10, lv, .int y :: .int x :: st, h) ↔ az_p58 C Q (11, lv, .int (x <<< (y &&& 31)) :: st, h) := az_wp_iff
theorem az_s58_11 {x : Int32} : az_p58 C Q (11, lv, .int x :: st, h) ↔ az_p58 C Q (12, (az_s1 lv 2 (.int x)), st, h) := az_wp_iff
theorem az_s58_12 : az_p58 C Q (12, lv, st, h) ↔ az_p58 C Q (13, lv, .int (Int32.ofInt (1)) :: st, h) := az_wp_iff
theorem az_s58_13 {x : Int32} : az_p58 C Q (13, lv, .int x :: st, h) ↔ az_p58 C Q (14, (az_s1 lv 3 (.int x)), st, h) := az_wp_iff
theorem az_s58_14 : az_p58 C Q (14, lv, st, h) ↔ az_mi (lv 3) (fun x => az_p58 C Q (15, lv, .int x :: st, h)) := az_wp_iff.trans az_go_ldi
theorem az_s58_15 : az_p58 C Q (15, lv, st, h) ↔ az_p58 C Q (17, lv, .int (Int32.ofInt (12)) :: st, h) := az_wp_iff
theorem az_s58_17 {x y : Int32} : az_p58 C Q (17, lv, .int y :: .int x :: st, h) ↔ (y < x → az_p58 C Q (98, lv, st, h)) ∧ (¬ y < x → az_p58 C Q (20, lv, st, h)) := az_wp_iff.trans (az_go_if2 az_d_eq)
theorem az_s58_20 : az_p58 C Q (20, lv, st, h) ↔ az_p58 C Q (21, lv, .int (Int32.ofInt (0)) :: st, h) := az_wp_iff
theorem az_s58_21 {x : Int32} : az_p58 C Q (21, lv, .int x :: st, h) ↔ az_p58 C Q (23, (az_s1 lv 4 (.int x)), st, h) := az_wp_iff
theorem az_s58_23 : az_p58 C Q (23, lv, st, h) ↔ az_mi (lv 1) (fun x => az_p58 C Q (24, lv, .int x :: st, h)) := az_wp_iff.trans az_go_ldi
theorem az_s58_24 {x : Int32} : az_p58 C Q (24, lv, .int x :: st, h) ↔ az_p58 C Q (26, (az_s1 lv 5 (.int x)), st, h) := az_wp_iff
theorem az_s58_26 : az_p58 C Q (26, lv, st, h) ↔ az_mi (lv 5) (fun x => az_p58 C Q (28, lv, .int x :: st, h)) := az_wp_iff.trans az_go_ldi
theorem az_s58_28 : az_p58 C Q (28, lv, st, h) ↔ az_p58 C Q (30, lv, .int (Int32.ofInt (12)) :: st, h) := az_wp_iff
theorem az_s58_30 {x y : Int32} : az_p58 C Q (30, lv, .int y :: .int x :: st, h) ↔ (y ≤ x → az_p58 C Q (78, lv, st, h)) ∧ (¬ y ≤ x → az_p58 C Q (33, lv, st, h)) := az_wp_iff.trans (az_go_if2 az_d_eq)
theorem az_s58_33 : az_p58 C Q (33, lv, st, h) ↔ az_ma (lv 0) (fun x => az_p58 C Q (34, lv, x :: st, h)) := az_wp_iff.trans az_go_lda
theorem az_s58_34 {a : Nat} : az_p58 C Q (34, lv, .ref a :: st, h) ↔ az_mf (h.1 a) 6 1 (fun v => az_p58 C Q (37, lv, v :: st, h)) := az_wp_iff.trans az_go_gf
theorem az_s58_37 : az_p58 C Q (37, lv, st, h) ↔ az_mi (lv 5) (fun x => az_p58 C Q (39, lv, .int x :: st, h)) := az_wp_iff.trans az_go_ldi
theorem az_s58_39 {a : Nat} {i : Int32} : az_p58 C Q (39, lv, .int i :: .ref a :: st, h) ↔ az_mr (h.1 a) 0 i.toInt (fun x => az_p58 C Q (40, lv, .int x :: st, h)) := az_wp_iff.trans az_go_ial
theorem az_s58_40 {x : Int32} : az_p58 C Q (40, lv, .int x :: st, h) ↔ (¬ x = 0 → az_p58 C Q (72, lv, st, h)) ∧ (¬ ¬ x = 0 → az_p58 C Q (43, lv, st, h)) := az_wp_iff.trans (az_go_if1 az_d_eq)
theorem az_s58_43 : az_p58 C Q (43, lv, st, h) ↔ az_ma (lv 0) (fun x => az_p58 C Q (44, lv, x :: st, h)) := az_wp_iff.trans az_go_lda
theorem az_s58_44 {a : Nat} : az_p58 C Q (44, lv, .ref a :: st, h) ↔ az_mf (h.1 a) 6 0 (fun v => az_p58 C Q (47, lv, v :: st, h)) := az_wp_iff.trans az_go_gf
theorem az_s58_47 : az_p58 C Q (47, lv, st, h) ↔ az_mi (lv 5) (fun x => az_p58 C Q (49, lv, .int x :: st, h)) := az_wp_iff.trans az_go_ldi
theorem az_s58_49 {a : Nat} {i : Int32} : az_p58 C Q (49, lv, .int i :: .ref a :: st, h) ↔ az_mr (h.1 a) 0 i.toInt (fun x => az_p58 C Q (50, lv, .int x :: st, h)) := az_wp_iff.trans az_go_ial
theorem az_s58_50 : az_p58 C Q (50, lv, st, h) ↔ az_mi (lv 2) (fun x => az_p58 C Q (51, lv, .int x :: st, h)) := az_wp_iff.trans az_go_ldi
theorem az_s58_51 {x y : Int32} : az_p58 C Q (51, lv, .int y :: .int x :: st, h) ↔ az_p58 C Q (52, lv, .int (x &&& y) :: st, h) := az_wp_iff
theorem az_s58_52 {x : Int32} : az_p58 C Q (52, lv, .int x :: st, h) ↔ (x = 0 → az_p58 C Q (72, lv, st, h)) ∧ (¬ x = 0 → az_p58 C Q (55, lv, st, h)) := az_wp_iff.trans (az_go_if1 az_d_eq)
theorem az_s58_55 : az_p58 C Q (55, lv, st, h) ↔ az_ma (lv 0) (fun x => az_p58 C Q (56, lv, x :: st, h)) := az_wp_iff.trans az_go_lda
theorem az_s58_56 {a : Nat} : az_p58 C Q (56, lv, .ref a :: st, h) ↔ az_mf (h.1 a) 6 1 (fun v => az_p58 C Q (59, lv, v :: st, h)) := az_wp_iff.trans az_go_gf
theorem az_s58_59 : az_p58 C Q (59, lv, st, h) ↔ az_mi (lv 5) (fun x => az_p58 C Q (61, lv, .int x :: st, h)) := az_wp_iff.trans az_go_ldi
theorem az_s58_61 : az_p58 C Q (61, lv, st, h) ↔ az_mi (lv 3) (fun x => az_p58 C Q (62, lv, .int x :: st, h)) := az_wp_iff.trans az_go_ldi
theorem az_s58_62 {a : Nat} {i x : Int32} : az_p58 C Q (62, lv, .int x :: .int i :: .ref a :: st, h) ↔ az_mw' (h.1 a) i.toInt x (fun c => az_p58 C Q (63, lv, st, az_uh h a c)) := az_wp_iff.trans az_go_ias
theorem az_s58_63 : az_p58 C Q (63, lv, st, h) ↔ az_mi (lv 4) (fun x => az_p58 C Q (65, lv, .int x :: st, h)) := az_wp_iff.trans az_go_ldi
theorem az_s58_65 : az_p58 C Q (65, lv, st, h) ↔ az_p58 C Q (66, lv, .int (Int32.ofInt (1)) :: st, h) := az_wp_iff
theorem az_s58_66 : az_p58 C Q (66, lv, st, h) ↔ az_mi (lv 5) (fun x => az_p58 C Q (68, lv, .int x :: st, h)) := az_wp_iff.trans az_go_ldi
theorem az_s58_68 {x y : Int32} : az_p58 C Q (68, lv, .int y :: .int x :: st, h) ↔ az_p58 C Q (69, lv, .int (x <<< (y &&& 31)) :: st, h) := az_wp_iff
theorem az_s58_69 {x y : Int32} : az_p58 C Q (69, lv, .int y :: .int x :: st, h) ↔ az_p58 C Q (70, lv, .int (x ||| y) :: st, h) := az_wp_iff
theorem az_s58_70 {x : Int32} : az_p58 C Q (70, lv, .int x :: st, h) ↔ az_p58 C Q (72, (az_s1 lv 4 (.int x)), st, h) := az_wp_iff
theorem az_s58_72 : az_p58 C Q (72, lv, st, h) ↔ az_mi (lv 5) (fun x => az_p58 C Q (75, (az_s1 lv 5 (.int (x + Int32.ofInt (1)))), st, h)) := az_wp_iff.trans az_go_inc
theorem az_s58_75 : az_p58 C Q (75, lv, st, h) ↔ az_p58 C Q (26, lv, st, h) := az_wp_iff
theorem az_s58_78 : az_p58 C Q (78, lv, st, h) ↔ az_ma (lv 0) (fun x => az_p58 C Q (79, lv, x :: st, h)) := az_wp_iff.trans az_go_lda
theorem az_s58_79 {a : Nat} : az_p58 C Q (79, lv, .ref a :: st, h) ↔ az_mf (h.1 a) 6 1 (fun v => az_p58 C Q (82, lv, v :: st, h)) := az_wp_iff.trans az_go_gf
theorem az_s58_82 : az_p58 C Q (82, lv, st, h) ↔ az_mi (lv 1) (fun x => az_p58 C Q (83, lv, .int x :: st, h)) := az_wp_iff.trans az_go_ldi
theorem az_s58_83 {a : Nat} {i : Int32} : az_p58 C Q (83, lv, .int i :: .ref a :: st, h) ↔ az_mr (h.1 a) 0 i.toInt (fun x => az_p58 C Q (84, lv, .int x :: st, h)) := az_wp_iff.trans az_go_ial
theorem az_s58_84 {x : Int32} : az_p58 C Q (84, lv, .int x :: st, h) ↔ (x ≤ 0 → az_p58 C Q (89, lv, st, h)) ∧ (¬ x ≤ 0 → az_p58 C Q (87, lv, st, h)) := az_wp_iff.trans (az_go_if1 az_d_eq)
theorem az_s58_87 : az_p58 C Q (87, lv, st, h) ↔ az_mi (lv 3) (fun x => az_p58 C Q (88, lv, .int x :: st, h)) := az_wp_iff.trans az_go_ldi
theorem az_s58_88 {x : Int32} : az_p58 C Q (88, lv, [.int x], h) ↔ Q (some (.int x)) h := az_wp_iff
theorem az_s58_89 : az_p58 C Q (89, lv, st, h) ↔ az_mi (lv 4) (fun x => az_p58 C Q (91, lv, .int x :: st, h)) := az_wp_iff.trans az_go_ldi
theorem az_s58_91 {x : Int32} : az_p58 C Q (91, lv, .int x :: st, h) ↔ az_p58 C Q (92, (az_s1 lv 2 (.int x)), st, h) := az_wp_iff
theorem az_s58_92 : az_p58 C Q (92, lv, st, h) ↔ az_mi (lv 3) (fun x => az_p58 C Q (95, (az_s1 lv 3 (.int (x + Int32.ofInt (1)))), st, h)) := az_wp_iff.trans az_go_inc
theorem az_s58_95 : az_p58 C Q (95, lv, st, h) ↔ az_p58 C Q (14, lv, st, h) := az_wp_iff
theorem az_s58_98 : az_p58 C Q (98, lv, st, h) ↔ az_p58 C Q (99, lv, .int (Int32.ofInt (0)) :: st, h) := az_wp_iff
theorem az_s58_99 {x : Int32} : az_p58 C Q (99, lv, [.int x], h) ↔ Q (some (.int x)) h := az_wp_iff
def az_p59 (C : az_Cl) (Q : Option Value → az_H → Prop) : az_S → Prop := az_wp C (fun _ => none) none (az_fn az_k59) Q
theorem az_s59_0 : az_p59 C Q (0, lv, st, h) ↔ az_ma (lv 0) (fun x => az_p59 C Q (1, lv, x :: st, h)) := az_wp_iff.trans az_go_lda
theorem az_s59_1 {a : Nat} : az_p59 C Q (1, lv, .ref a :: st, h) ↔ az_mf (h.1 a) 6 2 (fun v => az_p59 C Q (4, lv, v :: st, h)) := az_wp_iff.trans az_go_gf
theorem az_s59_4 : az_p59 C Q (4, lv, st, h) ↔ az_p59 C Q (5, lv, .int (Int32.ofInt (0)) :: st, h) := az_wp_iff
theorem az_s59_5 : az_p59 C Q (5, lv, st, h) ↔ az_mi (lv 1) (fun x => az_p59 C Q (6, lv, .int x :: st, h)) := az_wp_iff.trans az_go_ldi
theorem az_s59_6 {a : Nat} {i x : Int32} : az_p59 C Q (6, lv, .int x :: .int i :: .ref a :: st, h) ↔ az_mw' (h.1 a) i.toInt x (fun c => az_p59 C Q (7, lv, st, az_uh h a c)) := az_wp_iff.trans az_go_ias
theorem az_s59_7 : az_p59 C Q (7, lv, st, h) ↔ az_ma (lv 0) (fun x => az_p59 C Q (8, lv, x :: st, h)) := az_wp_iff.trans az_go_lda
theorem az_s59_8 : az_p59 C Q (8, lv, st, h) ↔ az_mi (lv 2) (fun x => az_p59 C Q (9, lv, .int x :: st, h)) := az_wp_iff.trans az_go_ldi
theorem az_s59_9 {a : Nat} {v : Value} : az_p59 C Q (9, lv, v :: .ref a :: st, h) ↔ az_mp (h.1 a) 6 3 0 v (fun c => az_p59 C Q (12, lv, st, az_uh h a c)) := az_wp_iff.trans az_go_pf
theorem az_s59_12 : az_p59 C Q (12, lv, st, h) ↔ az_mi (lv 1) (fun x => az_p59 C Q (13, lv, .int x :: st, h)) := az_wp_iff.trans az_go_ldi
theorem az_s59_13 {x : Int32} : az_p59 C Q (13, lv, .int x :: st, h) ↔ az_p59 C Q (14, (az_s1 lv 3 (.int x)), st, h) := az_wp_iff
theorem az_s59_14 : az_p59 C Q (14, lv, st, h) ↔ az_p59 C Q (15, lv, .int (Int32.ofInt (1)) :: st, h) := az_wp_iff
theorem az_s59_15 {x : Int32} : az_p59 C Q (15, lv, .int x :: st, h) ↔ az_p59 C Q (17, (az_s1 lv 4 (.int x)), st, h) := az_wp_iff
theorem az_s59_17 : az_p59 C Q (17, lv, st, h) ↔ az_mi (lv 4) (fun x => az_p59 C Q (19, lv, .int x :: st, h)) := az_wp_iff.trans az_go_ldi
theorem az_s59_19 : az_p59 C Q (19, lv, st, h) ↔ az_mi (lv 2) (fun x => az_p59 C Q (20, lv, .int x :: st, h)) := az_wp_iff.trans az_go_ldi
theorem az_s59_20 {x y : Int32} : az_p59 C Q (20, lv, .int y :: .int x :: st, h) ↔ (y ≤ x → az_p59 C Q (55, lv, st, h)) ∧ (¬ y ≤ x → az_p59 C Q (23, lv, st, h)) := az_wp_iff.trans (az_go_if2 az_d_eq)
theorem az_s59_23 : az_p59 C Q (23, lv, st, h) ↔ az_mi (lv 4) (fun x => az_p59 C Q (25, lv, .int x :: st, h)) := az_wp_iff.trans az_go_ldi
theorem az_s59_25 : az_p59 C Q (25, lv, st, h) ↔ az_p59 C Q (27, lv, .int (Int32.ofInt (12)) :: st, h) := az_wp_iff
theorem az_s59_27 {x y : Int32} : az_p59 C Q (27, lv, .int y :: .int x :: st, h) ↔ (y ≤ x → az_p59 C Q (55, lv, st, h)) ∧ (¬ y ≤ x → az_p59 C Q (30, lv, st, h)) := az_wp_iff.trans (az_go_if2 az_d_eq)
theorem az_s59_30 : az_p59 C Q (30, lv, st, h) ↔ az_ma (lv 0) (fun x => az_p59 C Q (31, lv, x :: st, h)) := az_wp_iff.trans az_go_lda
theorem az_s59_31 : az_p59 C Q (31, lv, st, h) ↔ az_mi (lv 3) (fun x => az_p59 C Q (32, lv, .int x :: st, h)) := az_wp_iff.trans az_go_ldi
theorem az_s59_32 : az_p59 C Q (32, lv, st, h) ↔ az_mi (lv 1) (fun x => az_p59 C Q (33, lv, .int x :: st, h)) := az_wp_iff.trans az_go_ldi
theorem az_s59_33 : az_p59 C Q (33, lv, st, h) ↔ az_mi (lv 2) (fun x => az_p59 C Q (34, lv, .int x :: st, h)) := az_wp_iff.trans az_go_ldi
theorem az_s59_34 : az_p59 C Q (34, lv, st, h) ↔ az_mi (lv 4) (fun x => az_p59 C Q (36, lv, .int x :: st, h)) := az_wp_iff.trans az_go_ldi
theorem az_s59_36 {x y : Int32} : az_p59 C Q (36, lv, .int y :: .int x :: st, h) ↔ az_p59 C Q (37, lv, .int (x - y) :: st, h) := az_wp_iff
theorem az_s59_37 {a : Nat} {v1 v2 v3 : Value} : az_p59 C Q (37, lv, v3 :: v2 :: v1 :: .ref a :: st, h) ↔ az_isob (h.1 a) 6 = true ∧ az_cat st ≤ 8 ∧ az_mc C 60 [.ref a, v1, v2, v3] h (fun v h' => az_p59 C Q (40, lv, v ++ st, h')) := az_wp_iff.trans (az_go_if.trans (and_congr Iff.rfl az_go_call))
theorem az_s59_40 {x : Int32} : az_p59 C Q (40, lv, .int x :: st, h) ↔ az_p59 C Q (41, (az_s1 lv 3 (.int x)), st, h) := az_wp_iff
theorem az_s59_41 : az_p59 C Q (41, lv, st, h) ↔ az_ma (lv 0) (fun x => az_p59 C Q (42, lv, x :: st, h)) := az_wp_iff.trans az_go_lda
theorem az_s59_42 {a : Nat} : az_p59 C Q (42, lv, .ref a :: st, h) ↔ az_mf (h.1 a) 6 2 (fun v => az_p59 C Q (45, lv, v :: st, h)) := az_wp_iff.trans az_go_gf
theorem az_s59_45 : az_p59 C Q (45, lv, st, h) ↔ az_mi (lv 4) (fun x => az_p59 C Q (47, lv, .int x :: st, h)) := az_wp_iff.trans az_go_ldi
theorem az_s59_47 : az_p59 C Q (47, lv, st, h) ↔ az_mi (lv 3) (fun x => az_p59 C Q (48, lv, .int x :: st, h)) := az_wp_iff.trans az_go_ldi
theorem az_s59_48 {a : Nat} {i x : Int32} : az_p59 C Q (48, lv, .int x :: .int i :: .ref a :: st, h) ↔ az_mw' (h.1 a) i.toInt x (fun c => az_p59 C Q (49, lv, st, az_uh h a c)) := az_wp_iff.trans az_go_ias
theorem az_s59_49 : az_p59 C Q (49, lv, st, h) ↔ az_mi (lv 4) (fun x => az_p59 C Q (52, (az_s1 lv 4 (.int (x + Int32.ofInt (1)))), st, h)) := az_wp_iff.trans az_go_inc
theorem az_s59_52 : az_p59 C Q (52, lv, st, h) ↔ az_p59 C Q (17, lv, st, h) := az_wp_iff
theorem az_s59_55 : az_p59 C Q (55, lv, [], h) ↔ Q none h := az_wp_iff
def az_p60 (C : az_Cl) (Q : Option Value → az_H → Prop) : az_S → Prop := az_wp C (fun _ => none) (some .int) (az_fn az_k60) Q
theorem az_s60_0 : az_p60 C Q (0, lv, st, h) ↔ az_mi (lv 2) (fun x => az_p60 C Q (1, lv, .int x :: st, h)) := az_wp_iff.trans az_go_ldi
theorem az_s60_1 : az_p60 C Q (1, lv, st, h) ↔ az_p60 C Q (2, lv, .int (Int32.ofInt (1)) :: st, h) := az_wp_iff
theorem az_s60_2 {x y : Int32} : az_p60 C Q (2, lv, .int y :: .int x :: st, h) ↔ az_p60 C Q (3, lv, .int (x + y) :: st, h) := az_wp_iff
theorem az_s60_3 {x : Int32} : az_p60 C Q (3, lv, .int x :: st, h) ↔ az_p60 C Q (5, (az_s1 lv 4 (.int x)), st, h) := az_wp_iff
theorem az_s60_5 : az_p60 C Q (5, lv, st, h) ↔ az_mi (lv 4) (fun x => az_p60 C Q (7, lv, .int x :: st, h)) := az_wp_iff.trans az_go_ldi
theorem az_s60_7 : az_p60 C Q (7, lv, st, h) ↔ az_p60 C Q (9, lv, .int (Int32.ofInt (12)) :: st, h) := az_wp_iff
theorem az_s60_9 {x y : Int32} : az_p60 C Q (9, lv, .int y :: .int x :: st, h) ↔ (y ≤ x → az_p60 C Q (46, lv, st, h)) ∧ (¬ y ≤ x → az_p60 C Q (12, lv, st, h)) := az_wp_iff.trans (az_go_if2 az_d_eq)
theorem az_s60_12 : az_p60 C Q (12, lv, st, h) ↔ az_ma (lv 0) (fun x => az_p60 C Q (13, lv, x :: st, h)) := az_wp_iff.trans az_go_lda
theorem az_s60_13 {a : Nat} : az_p60 C Q (13, lv, .ref a :: st, h) ↔ az_mf (h.1 a) 6 0 (fun v => az_p60 C Q (16, lv, v :: st, h)) := az_wp_iff.trans az_go_gf
theorem az_s60_16 : az_p60 C Q (16, lv, st, h) ↔ az_mi (lv 1) (fun x => az_p60 C Q (17, lv, .int x :: st, h)) := az_wp_iff.trans az_go_ldi
theorem az_s60_17 {a : Nat} {i : Int32} : az_p60 C Q (17, lv, .int i :: .ref a :: st, h) ↔ az_mr (h.1 a) 0 i.toInt (fun x => az_p60 C Q (18, lv, .int x :: st, h)) := az_wp_iff.trans az_go_ial
theorem az_s60_18 : az_p60 C Q (18, lv, st, h) ↔ az_p60 C Q (19, lv, .int (Int32.ofInt (1)) :: st, h) := az_wp_iff
theorem az_s60_19 : az_p60 C Q (19, lv, st, h) ↔ az_mi (lv 4) (fun x => az_p60 C Q (21, lv, .int x :: st, h)) := az_wp_iff.trans az_go_ldi
theorem az_s60_21 {x y : Int32} : az_p60 C Q (21, lv, .int y :: .int x :: st, h) ↔ az_p60 C Q (22, lv, .int (x <<< (y &&& 31)) :: st, h) := az_wp_iff
theorem az_s60_22 {x y : Int32} : az_p60 C Q (22, lv, .int y :: .int x :: st, h) ↔ az_p60 C Q (23, lv, .int (x &&& y) :: st, h) := az_wp_iff
theorem az_s60_23 {x : Int32} : az_p60 C Q (23, lv, .int x :: st, h) ↔ (x = 0 → az_p60 C Q (40, lv, st, h)) ∧ (¬ x = 0 → az_p60 C Q (26, lv, st, h)) := az_wp_iff.trans (az_go_if1 az_d_eq)
theorem az_s60_26 : az_p60 C Q (26, lv, st, h) ↔ az_ma (lv 0) (fun x => az_p60 C Q (27, lv, x :: st, h)) := az_wp_iff.trans az_go_lda
theorem az_s60_27 {a : Nat} : az_p60 C Q (27, lv, .ref a :: st, h) ↔ az_mf (h.1 a) 6 1 (fun v => az_p60 C Q (30, lv, v :: st, h)) := az_wp_iff.trans az_go_gf
theorem az_s60_30 : az_p60 C Q (30, lv, st, h) ↔ az_mi (lv 4) (fun x => az_p60 C Q (32, lv, .int x :: st, h)) := az_wp_iff.trans az_go_ldi
theorem az_s60_32 {a : Nat} {i : Int32} : az_p60 C Q (32, lv, .int i :: .ref a :: st, h) ↔ az_mr (h.1 a) 0 i.toInt (fun x => az_p60 C Q (33, lv, .int x :: st, h)) := az_wp_iff.trans az_go_ial
theorem az_s60_33 : az_p60 C Q (33, lv, st, h) ↔ az_mi (lv 3) (fun x => az_p60 C Q (34, lv, .int x :: st, h)) := az_wp_iff.trans az_go_ldi
theorem az_s60_34 {x y : Int32} : az_p60 C Q (34, lv, .int y :: .int x :: st, h) ↔ (¬ x = y → az_p60 C Q (40, lv, st, h)) ∧ (¬ ¬ x = y → az_p60 C Q (37, lv, st, h)) := az_wp_iff.trans (az_go_if2 az_d_eq)
theorem az_s60_37 : az_p60 C Q (37, lv, st, h) ↔ az_mi (lv 4) (fun x => az_p60 C Q (39, lv, .int x :: st, h)) := az_wp_iff.trans az_go_ldi
theorem az_s60_39 {x : Int32} : az_p60 C Q (39, lv, [.int x], h) ↔ Q (some (.int x)) h := az_wp_iff
theorem az_s60_40 : az_p60 C Q (40, lv, st, h) ↔ az_mi (lv 4) (fun x => az_p60 C Q (43, (az_s1 lv 4 (.int (x + Int32.ofInt (1)))), st, h)) := az_wp_iff.trans az_go_inc
theorem az_s60_43 : az_p60 C Q (43, lv, st, h) ↔ az_p60 C Q (5, lv, st, h) := az_wp_iff
theorem az_s60_46 : az_p60 C Q (46, lv, st, h) ↔ az_mi (lv 2) (fun x => az_p60 C Q (47, lv, .int x :: st, h)) := az_wp_iff.trans az_go_ldi
theorem az_s60_47 {x : Int32} : az_p60 C Q (47, lv, [.int x], h) ↔ Q (some (.int x)) h := az_wp_iff
def az_p61 (C : az_Cl) (Q : Option Value → az_H → Prop) : az_S → Prop := az_wp C (fun _ => none) none (az_fn az_k61) Q
theorem az_s61_0 : az_p61 C Q (0, lv, st, h) ↔ az_ma (lv 0) (fun x => az_p61 C Q (1, lv, x :: st, h)) := az_wp_iff.trans az_go_lda
theorem az_s61_1 {a : Nat} : az_p61 C Q (1, lv, .ref a :: st, h) ↔ az_cat st ≤ 8 ∧ az_p61 C Q (4, lv, st, h) := az_wp_iff.trans az_go_if
theorem az_s61_4 : az_p61 C Q (4, lv, st, h) ↔ az_ma (lv 0) (fun x => az_p61 C Q (5, lv, x :: st, h)) := az_wp_iff.trans az_go_lda
theorem az_s61_5 : az_p61 C Q (5, lv, st, h) ↔ az_ma (lv 1) (fun x => az_p61 C Q (6, lv, x :: st, h)) := az_wp_iff.trans az_go_lda
theorem az_s61_6 {a : Nat} {v : Value} : az_p61 C Q (6, lv, v :: .ref a :: st, h) ↔ az_mp (h.1 a) 7 0 3 v (fun c => az_p61 C Q (9, lv, st, az_uh h a c)) := az_wp_iff.trans az_go_pf
theorem az_s61_9 : az_p61 C Q (9, lv, st, h) ↔ az_ma (lv 0) (fun x => az_p61 C Q (10, lv, x :: st, h)) := az_wp_iff.trans az_go_lda
theorem az_s61_10 : az_p61 C Q (10, lv, st, h) ↔ az_ma (lv 2) (fun x => az_p61 C Q (11, lv, x :: st, h)) := az_wp_iff.trans az_go_lda
theorem az_s61_11 {a : Nat} {v : Value} : az_p61 C Q (11, lv, v :: .ref a :: st, h) ↔ az_mp (h.1 a) 7 1 3 v (fun c => az_p61 C Q (14, lv, st, az_uh h a c)) := az_wp_iff.trans az_go_pf
theorem az_s61_14 : az_p61 C Q (14, lv, st, h) ↔ az_ma (lv 0) (fun x => az_p61 C Q (15, lv, x :: st, h)) := az_wp_iff.trans az_go_lda
theorem az_s61_15 : az_p61 C Q (15, lv, st, h) ↔ az_ma (lv 3) (fun x => az_p61 C Q (16, lv, x :: st, h)) := az_wp_iff.trans az_go_lda
theorem az_s61_16 {a : Nat} {v : Value} : az_p61 C Q (16, lv, v :: .ref a :: st, h) ↔ az_mp (h.1 a) 7 2 3 v (fun c => az_p61 C Q (19, lv, st, az_uh h a c)) := az_wp_iff.trans az_go_pf
theorem az_s61_19 : az_p61 C Q (19, lv, st, h) ↔ az_ma (lv 0) (fun x => az_p61 C Q (20, lv, x :: st, h)) := az_wp_iff.trans az_go_lda
theorem az_s61_20 : az_p61 C Q (20, lv, st, h) ↔ az_ma (lv 4) (fun x => az_p61 C Q (22, lv, x :: st, h)) := az_wp_iff.trans az_go_lda
theorem az_s61_22 {a : Nat} {v : Value} : az_p61 C Q (22, lv, v :: .ref a :: st, h) ↔ az_mp (h.1 a) 7 3 3 v (fun c => az_p61 C Q (25, lv, st, az_uh h a c)) := az_wp_iff.trans az_go_pf
theorem az_s61_25 : az_p61 C Q (25, lv, st, h) ↔ az_ma (lv 0) (fun x => az_p61 C Q (26, lv, x :: st, h)) := az_wp_iff.trans az_go_lda
theorem az_s61_26 : az_p61 C Q (26, lv, st, h) ↔ az_p61 C Q (29, lv, .ref h.2.1 :: st, az_nw h (az_ob 9 (az_z 9)) 2) := az_wp_iff
theorem az_s61_29 {x : Int32} : az_p61 C Q (29, lv, .int x :: st, h) ↔ az_p61 C Q (30, lv, .int x :: .int x :: st, h) := az_wp_iff
theorem az_s61_29r {x : Nat} : az_p61 C Q (29, lv, .ref x :: st, h) ↔ az_p61 C Q (30, lv, .ref x :: .ref x :: st, h) := az_wp_iff
theorem az_s61_30 : az_p61 C Q (30, lv, st, h) ↔ az_ma (lv 2) (fun x => az_p61 C Q (31, lv, x :: st, h)) := az_wp_iff.trans az_go_lda
theorem az_s61_31 : az_p61 C Q (31, lv, st, h) ↔ az_ma (lv 3) (fun x => az_p61 C Q (32, lv, x :: st, h)) := az_wp_iff.trans az_go_lda
theorem az_s61_32 {a : Nat} {v1 v2 : Value} : az_p61 C Q (32, lv, v2 :: v1 :: .ref a :: st, h) ↔ az_cat st ≤ 8 ∧ az_mc C 101 [.ref a, v1, v2] h (fun v h' => az_p61 C Q (35, lv, v ++ st, h')) := az_wp_iff.trans az_go_call
theorem az_s61_35 {a : Nat} {v : Value} : az_p61 C Q (35, lv, v :: .ref a :: st, h) ↔ az_mp (h.1 a) 7 4 3 v (fun c => az_p61 C Q (38, lv, st, az_uh h a c)) := az_wp_iff.trans az_go_pf
theorem az_s61_38 : az_p61 C Q (38, lv, [], h) ↔ Q none h := az_wp_iff
def az_p62 (C : az_Cl) (Q : Option Value → az_H → Prop) : az_S → Prop := az_wp C (fun _ => none) none (az_fn az_k62) Q
theorem az_s62_0 : az_p62 C Q (0, lv, st, h) ↔ az_ma (lv 0) (fun x => az_p62 C Q (1, lv, x :: st, h)) := az_wp_iff.trans az_go_lda
theorem az_s62_1 {x : Int32} : az_p62 C Q (1, lv, .int x :: st, h) ↔ az_p62 C Q (2, lv, .int x :: .int x :: st, h) := az_wp_iff
theorem az_s62_1r {x : Nat} : az_p62 C Q (1, lv, .ref x :: st, h) ↔ az_p62 C Q (2, lv, .ref x :: .ref x :: st, h) := az_wp_iff
theorem az_s62_2 {a : Nat} : az_p62 C Q (2, lv, .ref a :: st, h) ↔ az_mf (h.1 a) 7 5 (fun v => az_p62 C Q (5, lv, v :: st, h)) := az_wp_iff.trans az_go_gf
theorem az_s62_5 : az_p62 C Q (5, lv, st, h) ↔ az_p62 C Q (6, lv, .int (Int32.ofInt (1)) :: st, h) := az_wp_iff
theorem az_s62_6 {x y : Int32} : az_p62 C Q (6, lv, .int y :: .int x :: st, h) ↔ az_p62 C Q (7, lv, .int (x + y) :: st, h) := az_wp_iff
theorem az_s62_7 {a : Nat} {v : Value} : az_p62 C Q (7, lv, v :: .ref a :: st, h) ↔ az_mp (h.1 a) 7 5 0 v (fun c => az_p62 C Q (10, lv, st, az_uh h a c)) := az_wp_iff.trans az_go_pf
theorem az_s62_10 : az_p62 C Q (10, lv, st, h) ↔ az_p62 C Q (12, lv, .int (Int32.ofInt (11)) :: st, h) := az_wp_iff
theorem az_s62_12 {x : Int32} : az_p62 C Q (12, lv, .int x :: st, h) ↔ az_p62 C Q (13, (az_s1 lv 1 (.int x)), st, h) := az_wp_iff
theorem az_s62_13 : az_p62 C Q (13, lv, st, h) ↔ az_mi (lv 1) (fun x => az_p62 C Q (14, lv, .int x :: st, h)) := az_wp_iff.trans az_go_ldi
theorem az_s62_14 {x : Int32} : az_p62 C Q (14, lv, .int x :: st, h) ↔ (x < 0 → az_p62 C Q (48, lv, st, h)) ∧ (¬ x < 0 → az_p62 C Q (17, lv, st, h)) := az_wp_iff.trans (az_go_if1 az_d_eq)
theorem az_s62_17 : az_p62 C Q (17, lv, st, h) ↔ az_ma (lv 0) (fun x => az_p62 C Q (18, lv, x :: st, h)) := az_wp_iff.trans az_go_lda
theorem az_s62_18 {a : Nat} : az_p62 C Q (18, lv, .ref a :: st, h) ↔ az_mf (h.1 a) 7 0 (fun v => az_p62 C Q (21, lv, v :: st, h)) := az_wp_iff.trans az_go_gf
theorem az_s62_21 : az_p62 C Q (21, lv, st, h) ↔ az_mi (lv 1) (fun x => az_p62 C Q (22, lv, .int x :: st, h)) := az_wp_iff.trans az_go_ldi
theorem az_s62_22 {a : Nat} {v1 : Value} : az_p62 C Q (22, lv, v1 :: .ref a :: st, h) ↔ az_isob (h.1 a) 2 = true ∧ az_cat st ≤ 8 ∧ az_mc C 14 [.ref a, v1] h (fun v h' => az_p62 C Q (25, lv, v ++ st, h')) := az_wp_iff.trans (az_go_if.trans (and_congr Iff.rfl az_go_call))
theorem az_s62_25 {x : Nat} : az_p62 C Q (25, lv, .ref x :: st, h) ↔ az_p62 C Q (26, (az_s1 lv 2 (.ref x)), st, h) := az_wp_iff
theorem az_s62_25n : az_p62 C Q (25, lv, .null :: st, h) ↔ az_p62 C Q (26, (az_s1 lv 2 .null), st, h) := az_wp_iff
theorem az_s62_26 : az_p62 C Q (26, lv, st, h) ↔ az_ma (lv 2) (fun x => az_p62 C Q (27, lv, x :: st, h)) := az_wp_iff.trans az_go_lda
theorem az_s62_27n : az_p62 C Q (27, lv, .null :: st, h) ↔ az_p62 C Q (42, lv, st, h) := az_wp_iff
theorem az_s62_27 {x : Nat} : az_p62 C Q (27, lv, .ref x :: st, h) ↔ az_p62 C Q (30, lv, st, h) := az_wp_iff
theorem az_s62_30 : az_p62 C Q (30, lv, st, h) ↔ az_ma (lv 2) (fun x => az_p62 C Q (31, lv, x :: st, h)) := az_wp_iff.trans az_go_lda
theorem az_s62_31 {a : Nat}  : az_p62 C Q (31, lv, .ref a :: st, h) ↔ az_isob (h.1 a) 8 = true ∧ az_cat st ≤ 8 ∧ az_mc C 95 [.ref a] h (fun v h' => az_p62 C Q (34, lv, v ++ st, h')) := az_wp_iff.trans (az_go_if.trans (and_congr Iff.rfl az_go_call))
theorem az_s62_34 {x : Int32} : az_p62 C Q (34, lv, .int x :: st, h) ↔ (x = 0 → az_p62 C Q (42, lv, st, h)) ∧ (¬ x = 0 → az_p62 C Q (37, lv, st, h)) := az_wp_iff.trans (az_go_if1 az_d_eq)
theorem az_s62_37 : az_p62 C Q (37, lv, st, h) ↔ az_ma (lv 0) (fun x => az_p62 C Q (38, lv, x :: st, h)) := az_wp_iff.trans az_go_lda
theorem az_s62_38 : az_p62 C Q (38, lv, st, h) ↔ az_ma (lv 2) (fun x => az_p62 C Q (39, lv, x :: st, h)) := az_wp_iff.trans az_go_lda
theorem az_s62_39 {a : Nat} {v1 : Value} : az_p62 C Q (39, lv, v1 :: .ref a :: st, h) ↔ az_isob (h.1 a) 7 = true ∧ az_cat st ≤ 8 ∧ az_mc C 63 [.ref a, v1] h (fun v h' => az_p62 C Q (42, lv, v ++ st, h')) := az_wp_iff.trans (az_go_if.trans (and_congr Iff.rfl az_go_call))
theorem az_s62_42 : az_p62 C Q (42, lv, st, h) ↔ az_mi (lv 1) (fun x => az_p62 C Q (45, (az_s1 lv 1 (.int (x + Int32.ofInt (-1)))), st, h)) := az_wp_iff.trans az_go_inc
theorem az_s62_45 : az_p62 C Q (45, lv, st, h) ↔ az_p62 C Q (13, lv, st, h) := az_wp_iff
theorem az_s62_48 : az_p62 C Q (48, lv, st, h) ↔ az_p62 C Q (50, lv, .int (Int32.ofInt (11)) :: st, h) := az_wp_iff
theorem az_s62_50 {x : Int32} : az_p62 C Q (50, lv, .int x :: st, h) ↔ az_p62 C Q (51, (az_s1 lv 1 (.int x)), st, h) := az_wp_iff
theorem az_s62_51 : az_p62 C Q (51, lv, st, h) ↔ az_mi (lv 1) (fun x => az_p62 C Q (52, lv, .int x :: st, h)) := az_wp_iff.trans az_go_ldi
theorem az_s62_52 {x : Int32} : az_p62 C Q (52, lv, .int x :: st, h) ↔ (x < 0 → az_p62 C Q (73, lv, st, h)) ∧ (¬ x < 0 → az_p62 C Q (55, lv, st, h)) := az_wp_iff.trans (az_go_if1 az_d_eq)
theorem az_s62_55 : az_p62 C Q (55, lv, st, h) ↔ az_ma (lv 0) (fun x => az_p62 C Q (56, lv, x :: st, h)) := az_wp_iff.trans az_go_lda
theorem az_s62_56 : az_p62 C Q (56, lv, st, h) ↔ az_ma (lv 0) (fun x => az_p62 C Q (57, lv, x :: st, h)) := az_wp_iff.trans az_go_lda
theorem az_s62_57 {a : Nat} : az_p62 C Q (57, lv, .ref a :: st, h) ↔ az_mf (h.1 a) 7 0 (fun v => az_p62 C Q (60, lv, v :: st, h)) := az_wp_iff.trans az_go_gf
theorem az_s62_60 : az_p62 C Q (60, lv, st, h) ↔ az_mi (lv 1) (fun x => az_p62 C Q (61, lv, .int x :: st, h)) := az_wp_iff.trans az_go_ldi
theorem az_s62_61 {a : Nat} {v1 : Value} : az_p62 C Q (61, lv, v1 :: .ref a :: st, h) ↔ az_isob (h.1 a) 2 = true ∧ az_cat st ≤ 8 ∧ az_mc C 14 [.ref a, v1] h (fun v h' => az_p62 C Q (64, lv, v ++ st, h')) := az_wp_iff.trans (az_go_if.trans (and_congr Iff.rfl az_go_call))
theorem az_s62_64 {a : Nat} {v1 : Value} : az_p62 C Q (64, lv, v1 :: .ref a :: st, h) ↔ az_isob (h.1 a) 7 = true ∧ az_cat st ≤ 8 ∧ az_mc C 66 [.ref a, v1] h (fun v h' => az_p62 C Q (67, lv, v ++ st, h')) := az_wp_iff.trans (az_go_if.trans (and_congr Iff.rfl az_go_call))
theorem az_s62_67 : az_p62 C Q (67, lv, st, h) ↔ az_mi (lv 1) (fun x => az_p62 C Q (70, (az_s1 lv 1 (.int (x + Int32.ofInt (-1)))), st, h)) := az_wp_iff.trans az_go_inc
theorem az_s62_70 : az_p62 C Q (70, lv, st, h) ↔ az_p62 C Q (51, lv, st, h) := az_wp_iff
theorem az_s62_73 : az_p62 C Q (73, lv, st, h) ↔ az_p62 C Q (75, lv, .int (Int32.ofInt (11)) :: st, h) := az_wp_iff
theorem az_s62_75 {x : Int32} : az_p62 C Q (75, lv, .int x :: st, h) ↔ az_p62 C Q (76, (az_s1 lv 1 (.int x)), st, h) := az_wp_iff
theorem az_s62_76 : az_p62 C Q (76, lv, st, h) ↔ az_mi (lv 1) (fun x => az_p62 C Q (77, lv, .int x :: st, h)) := az_wp_iff.trans az_go_ldi
theorem az_s62_77 {x : Int32} : az_p62 C Q (77, lv, .int x :: st, h) ↔ (x < 0 → az_p62 C Q (98, lv, st, h)) ∧ (¬ x < 0 → az_p62 C Q (80, lv, st, h)) := az_wp_iff.trans (az_go_if1 az_d_eq)
theorem az_s62_80 : az_p62 C Q (80, lv, st, h) ↔ az_ma (lv 0) (fun x => az_p62 C Q (81, lv, x :: st, h)) := az_wp_iff.trans az_go_lda
theorem az_s62_81 : az_p62 C Q (81, lv, st, h) ↔ az_ma (lv 0) (fun x => az_p62 C Q (82, lv, x :: st, h)) := az_wp_iff.trans az_go_lda
theorem az_s62_82 {a : Nat} : az_p62 C Q (82, lv, .ref a :: st, h) ↔ az_mf (h.1 a) 7 0 (fun v => az_p62 C Q (85, lv, v :: st, h)) := az_wp_iff.trans az_go_gf
theorem az_s62_85 : az_p62 C Q (85, lv, st, h) ↔ az_mi (lv 1) (fun x => az_p62 C Q (86, lv, .int x :: st, h)) := az_wp_iff.trans az_go_ldi
theorem az_s62_86 {a : Nat} {v1 : Value} : az_p62 C Q (86, lv, v1 :: .ref a :: st, h) ↔ az_isob (h.1 a) 2 = true ∧ az_cat st ≤ 8 ∧ az_mc C 14 [.ref a, v1] h (fun v h' => az_p62 C Q (89, lv, v ++ st, h')) := az_wp_iff.trans (az_go_if.trans (and_congr Iff.rfl az_go_call))
theorem az_s62_89 {a : Nat} {v1 : Value} : az_p62 C Q (89, lv, v1 :: .ref a :: st, h) ↔ az_isob (h.1 a) 7 = true ∧ az_cat st ≤ 8 ∧ az_mc C 69 [.ref a, v1] h (fun v h' => az_p62 C Q (92, lv, v ++ st, h')) := az_wp_iff.trans (az_go_if.trans (and_congr Iff.rfl az_go_call))
theorem az_s62_92 : az_p62 C Q (92, lv, st, h) ↔ az_mi (lv 1) (fun x => az_p62 C Q (95, (az_s1 lv 1 (.int (x + Int32.ofInt (-1)))), st, h)) := az_wp_iff.trans az_go_inc
theorem az_s62_95 : az_p62 C Q (95, lv, st, h) ↔ az_p62 C Q (76, lv, st, h) := az_wp_iff
theorem az_s62_98 : az_p62 C Q (98, lv, st, h) ↔ az_ma (lv 0) (fun x => az_p62 C Q (99, lv, x :: st, h)) := az_wp_iff.trans az_go_lda
theorem az_s62_99 {a : Nat}  : az_p62 C Q (99, lv, .ref a :: st, h) ↔ az_isob (h.1 a) 7 = true ∧ az_cat st ≤ 8 ∧ az_mc C 71 [.ref a] h (fun v h' => az_p62 C Q (102, lv, v ++ st, h')) := az_wp_iff.trans (az_go_if.trans (and_congr Iff.rfl az_go_call))
theorem az_s62_102 : az_p62 C Q (102, lv, [], h) ↔ Q none h := az_wp_iff
def az_p63 (C : az_Cl) (Q : Option Value → az_H → Prop) : az_S → Prop := az_wp C (fun _ => none) none (az_fn az_k63) Q
theorem az_s63_0 : az_p63 C Q (0, lv, st, h) ↔ az_ma (lv 1) (fun x => az_p63 C Q (1, lv, x :: st, h)) := az_wp_iff.trans az_go_lda
theorem az_s63_1 {x : Int32} : az_p63 C Q (1, lv, .int x :: st, h) ↔ az_p63 C Q (2, lv, .int x :: .int x :: st, h) := az_wp_iff
theorem az_s63_1r {x : Nat} : az_p63 C Q (1, lv, .ref x :: st, h) ↔ az_p63 C Q (2, lv, .ref x :: .ref x :: st, h) := az_wp_iff
theorem az_s63_2 {a : Nat} : az_p63 C Q (2, lv, .ref a :: st, h) ↔ az_mf (h.1 a) 8 13 (fun v => az_p63 C Q (5, lv, v :: st, h)) := az_wp_iff.trans az_go_gf
theorem az_s63_5 : az_p63 C Q (5, lv, st, h) ↔ az_p63 C Q (6, lv, .int (Int32.ofInt (1)) :: st, h) := az_wp_iff
theorem az_s63_6 {x y : Int32} : az_p63 C Q (6, lv, .int y :: .int x :: st, h) ↔ az_p63 C Q (7, lv, .int (x + y) :: st, h) := az_wp_iff
theorem az_s63_7 {a : Nat} {v : Value} : az_p63 C Q (7, lv, v :: .ref a :: st, h) ↔ az_mp (h.1 a) 8 13 0 v (fun c => az_p63 C Q (10, lv, st, az_uh h a c)) := az_wp_iff.trans az_go_pf
theorem az_s63_10 : az_p63 C Q (10, lv, st, h) ↔ az_ma (lv 0) (fun x => az_p63 C Q (11, lv, x :: st, h)) := az_wp_iff.trans az_go_lda
theorem az_s63_11 {a : Nat} : az_p63 C Q (11, lv, .ref a :: st, h) ↔ az_mf (h.1 a) 7 3 (fun v => az_p63 C Q (14, lv, v :: st, h)) := az_wp_iff.trans az_go_gf
theorem az_s63_14 : az_p63 C Q (14, lv, st, h) ↔ az_ma (lv 1) (fun x => az_p63 C Q (15, lv, x :: st, h)) := az_wp_iff.trans az_go_lda
theorem az_s63_15 {a : Nat} : az_p63 C Q (15, lv, .ref a :: st, h) ↔ az_mf (h.1 a) 8 0 (fun v => az_p63 C Q (18, lv, v :: st, h)) := az_wp_iff.trans az_go_gf
theorem az_s63_18 : az_p63 C Q (18, lv, st, h) ↔ az_ma (lv 1) (fun x => az_p63 C Q (19, lv, x :: st, h)) := az_wp_iff.trans az_go_lda
theorem az_s63_19 {a : Nat} : az_p63 C Q (19, lv, .ref a :: st, h) ↔ az_mf (h.1 a) 8 13 (fun v => az_p63 C Q (22, lv, v :: st, h)) := az_wp_iff.trans az_go_gf
theorem az_s63_22 {a : Nat} {v1 v2 : Value} : az_p63 C Q (22, lv, v2 :: v1 :: .ref a :: st, h) ↔ az_isob (h.1 a) 1 = true ∧ az_cat st ≤ 8 ∧ az_mc C 11 [.ref a, v1, v2] h (fun v h' => az_p63 C Q (25, lv, v ++ st, h')) := az_wp_iff.trans (az_go_if.trans (and_congr Iff.rfl az_go_call))
theorem az_s63_25 {x : Int32} : az_p63 C Q (25, lv, .int x :: st, h) ↔ az_p63 C Q (26, (az_s1 lv 2 (.int x)), st, h) := az_wp_iff
theorem az_s63_26 : az_p63 C Q (26, lv, st, h) ↔ az_mi (lv 2) (fun x => az_p63 C Q (27, lv, .int x :: st, h)) := az_wp_iff.trans az_go_ldi
theorem az_s63_27 : az_p63 C Q (27, lv, st, h) ↔ az_p63 C Q (28, lv, .int (Int32.ofInt (-1)) :: st, h) := az_wp_iff
theorem az_s63_28 {x y : Int32} : az_p63 C Q (28, lv, .int y :: .int x :: st, h) ↔ (x = y → az_p63 C Q (48, lv, st, h)) ∧ (¬ x = y → az_p63 C Q (31, lv, st, h)) := az_wp_iff.trans (az_go_if2 az_d_eq)
theorem az_s63_31 : az_p63 C Q (31, lv, st, h) ↔ az_ma (lv 1) (fun x => az_p63 C Q (32, lv, x :: st, h)) := az_wp_iff.trans az_go_lda
theorem az_s63_32 {x : Int32} : az_p63 C Q (32, lv, .int x :: st, h) ↔ az_p63 C Q (33, lv, .int x :: .int x :: st, h) := az_wp_iff
theorem az_s63_32r {x : Nat} : az_p63 C Q (32, lv, .ref x :: st, h) ↔ az_p63 C Q (33, lv, .ref x :: .ref x :: st, h) := az_wp_iff
theorem az_s63_33 {a : Nat} : az_p63 C Q (33, lv, .ref a :: st, h) ↔ az_mf (h.1 a) 8 14 (fun v => az_p63 C Q (36, lv, v :: st, h)) := az_wp_iff.trans az_go_gf
theorem az_s63_36 : az_p63 C Q (36, lv, st, h) ↔ az_p63 C Q (37, lv, .int (Int32.ofInt (1)) :: st, h) := az_wp_iff
theorem az_s63_37 {x y : Int32} : az_p63 C Q (37, lv, .int y :: .int x :: st, h) ↔ az_p63 C Q (38, lv, .int (x + y) :: st, h) := az_wp_iff
theorem az_s63_38 {a : Nat} {v : Value} : az_p63 C Q (38, lv, v :: .ref a :: st, h) ↔ az_mp (h.1 a) 8 14 0 v (fun c => az_p63 C Q (41, lv, st, az_uh h a c)) := az_wp_iff.trans az_go_pf
theorem az_s63_41 : az_p63 C Q (41, lv, st, h) ↔ az_ma (lv 0) (fun x => az_p63 C Q (42, lv, x :: st, h)) := az_wp_iff.trans az_go_lda
theorem az_s63_42 : az_p63 C Q (42, lv, st, h) ↔ az_ma (lv 1) (fun x => az_p63 C Q (43, lv, x :: st, h)) := az_wp_iff.trans az_go_lda
theorem az_s63_43 : az_p63 C Q (43, lv, st, h) ↔ az_mi (lv 2) (fun x => az_p63 C Q (44, lv, .int x :: st, h)) := az_wp_iff.trans az_go_ldi
theorem az_s63_44 {a : Nat} {v1 v2 : Value} : az_p63 C Q (44, lv, v2 :: v1 :: .ref a :: st, h) ↔ az_isob (h.1 a) 7 = true ∧ az_cat st ≤ 8 ∧ az_mc C 64 [.ref a, v1, v2] h (fun v h' => az_p63 C Q (47, lv, v ++ st, h')) := az_wp_iff.trans (az_go_if.trans (and_congr Iff.rfl az_go_call))
theorem az_s63_47 : az_p63 C Q (47, lv, [], h) ↔ Q none h := az_wp_iff
theorem az_s63_48 : az_p63 C Q (48, lv, st, h) ↔ az_ma (lv 0) (fun x => az_p63 C Q (49, lv, x :: st, h)) := az_wp_iff.trans az_go_lda
theorem az_s63_49 {a : Nat} : az_p63 C Q (49, lv, .ref a :: st, h) ↔ az_mf (h.1 a) 7 4 (fun v => az_p63 C Q (52, lv, v :: st, h)) := az_wp_iff.trans az_go_gf
theorem az_s63_52 : az_p63 C Q (52, lv, st, h) ↔ az_ma (lv 1) (fun x => az_p63 C Q (53, lv, x :: st, h)) := az_wp_iff.trans az_go_lda
theorem az_s63_53 {a : Nat} {v1 : Value} : az_p63 C Q (53, lv, v1 :: .ref a :: st, h) ↔ az_isob (h.1 a) 9 = true ∧ az_cat st ≤ 8 ∧ az_mc C 102 [.ref a, v1] h (fun v h' => az_p63 C Q (56, lv, v ++ st, h')) := az_wp_iff.trans (az_go_if.trans (and_congr Iff.rfl az_go_call))
theorem az_s63_56 : az_p63 C Q (56, lv, st, h) ↔ az_ma (lv 1) (fun x => az_p63 C Q (57, lv, x :: st, h)) := az_wp_iff.trans az_go_lda
theorem az_s63_57 : az_p63 C Q (57, lv, st, h) ↔ az_ma (lv 1) (fun x => az_p63 C Q (58, lv, x :: st, h)) := az_wp_iff.trans az_go_lda
theorem az_s63_58 {a : Nat} : az_p63 C Q (58, lv, .ref a :: st, h) ↔ az_mf (h.1 a) 8 18 (fun v => az_p63 C Q (61, lv, v :: st, h)) := az_wp_iff.trans az_go_gf
theorem az_s63_61 {a : Nat}  : az_p63 C Q (61, lv, .ref a :: st, h) ↔ az_isob (h.1 a) 4 = true ∧ az_cat st ≤ 8 ∧ az_mc C 29 [.ref a] h (fun v h' => az_p63 C Q (64, lv, v ++ st, h')) := az_wp_iff.trans (az_go_if.trans (and_congr Iff.rfl az_go_call))
theorem az_s63_64 {x : Int32} : az_p63 C Q (64, lv, .int x :: st, h) ↔ (x = 0 → az_p63 C Q (71, lv, st, h)) ∧ (¬ x = 0 → az_p63 C Q (67, lv, st, h)) := az_wp_iff.trans (az_go_if1 az_d_eq)
theorem az_s63_67 : az_p63 C Q (67, lv, st, h) ↔ az_p63 C Q (68, lv, .int (Int32.ofInt (0)) :: st, h) := az_wp_iff
theorem az_s63_68 : az_p63 C Q (68, lv, st, h) ↔ az_p63 C Q (72, lv, st, h) := az_wp_iff
theorem az_s63_71 : az_p63 C Q (71, lv, st, h) ↔ az_p63 C Q (72, lv, .int (Int32.ofInt (2)) :: st, h) := az_wp_iff
theorem az_s63_72 : az_p63 C Q (72, lv, st, h) ↔ az_p63 C Q (73, lv, .int (Int32.ofInt (0)) :: st, h) := az_wp_iff
theorem az_s63_73 {a : Nat} {v1 v2 : Value} : az_p63 C Q (73, lv, v2 :: v1 :: .ref a :: st, h) ↔ az_isob (h.1 a) 8 = true ∧ az_cat st ≤ 8 ∧ az_mc C 96 [.ref a, v1, v2] h (fun v h' => az_p63 C Q (76, lv, v ++ st, h')) := az_wp_iff.trans (az_go_if.trans (and_congr Iff.rfl az_go_call))
theorem az_s63_76 : az_p63 C Q (76, lv, [], h) ↔ Q none h := az_wp_iff
def az_p64 (C : az_Cl) (Q : Option Value → az_H → Prop) : az_S → Prop := az_wp C (fun _ => none) none (az_fn az_k64) Q
theorem az_s64_0 : az_p64 C Q (0, lv, st, h) ↔ az_ma (lv 1) (fun x => az_p64 C Q (1, lv, x :: st, h)) := az_wp_iff.trans az_go_lda
theorem az_s64_1 : az_p64 C Q (1, lv, st, h) ↔ az_mi (lv 2) (fun x => az_p64 C Q (2, lv, .int x :: st, h)) := az_wp_iff.trans az_go_ldi
theorem az_s64_2 {a : Nat} {v1 : Value} : az_p64 C Q (2, lv, v1 :: .ref a :: st, h) ↔ az_isob (h.1 a) 8 = true ∧ az_cat st ≤ 8 ∧ az_mc C 93 [.ref a, v1] h (fun v h' => az_p64 C Q (5, lv, v ++ st, h')) := az_wp_iff.trans (az_go_if.trans (and_congr Iff.rfl az_go_call))
theorem az_s64_5 {x : Int32} : az_p64 C Q (5, lv, .int x :: st, h) ↔ az_p64 C Q (6, (az_s1 lv 3 (.int x)), st, h) := az_wp_iff
theorem az_s64_6 : az_p64 C Q (6, lv, st, h) ↔ az_mi (lv 3) (fun x => az_p64 C Q (7, lv, .int x :: st, h)) := az_wp_iff.trans az_go_ldi
theorem az_s64_7 : az_p64 C Q (7, lv, st, h) ↔ az_p64 C Q (8, lv, .int (Int32.ofInt (2)) :: st, h) := az_wp_iff
theorem az_s64_8 {x y : Int32} : az_p64 C Q (8, lv, .int y :: .int x :: st, h) ↔ (¬ x = y → az_p64 C Q (18, lv, st, h)) ∧ (¬ ¬ x = y → az_p64 C Q (11, lv, st, h)) := az_wp_iff.trans (az_go_if2 az_d_eq)
theorem az_s64_11 : az_p64 C Q (11, lv, st, h) ↔ az_ma (lv 0) (fun x => az_p64 C Q (12, lv, x :: st, h)) := az_wp_iff.trans az_go_lda
theorem az_s64_12 {a : Nat}  : az_p64 C Q (12, lv, .ref a :: st, h) ↔ az_isob (h.1 a) 7 = true ∧ az_cat st ≤ 8 ∧ az_mc C 72 [.ref a] h (fun v h' => az_p64 C Q (15, lv, v ++ st, h')) := az_wp_iff.trans (az_go_if.trans (and_congr Iff.rfl az_go_call))
theorem az_s64_15 : az_p64 C Q (15, lv, st, h) ↔ az_p64 C Q (74, lv, st, h) := az_wp_iff
theorem az_s64_18 : az_p64 C Q (18, lv, st, h) ↔ az_mi (lv 3) (fun x => az_p64 C Q (19, lv, .int x :: st, h)) := az_wp_iff.trans az_go_ldi
theorem az_s64_19 : az_p64 C Q (19, lv, st, h) ↔ az_p64 C Q (20, lv, .int (Int32.ofInt (1)) :: st, h) := az_wp_iff
theorem az_s64_20 {x y : Int32} : az_p64 C Q (20, lv, .int y :: .int x :: st, h) ↔ (¬ x = y → az_p64 C Q (32, lv, st, h)) ∧ (¬ ¬ x = y → az_p64 C Q (23, lv, st, h)) := az_wp_iff.trans (az_go_if2 az_d_eq)
theorem az_s64_23 : az_p64 C Q (23, lv, st, h) ↔ az_ma (lv 1) (fun x => az_p64 C Q (24, lv, x :: st, h)) := az_wp_iff.trans az_go_lda
theorem az_s64_24 : az_p64 C Q (24, lv, st, h) ↔ az_p64 C Q (25, lv, .int (Int32.ofInt (2)) :: st, h) := az_wp_iff
theorem az_s64_25 : az_p64 C Q (25, lv, st, h) ↔ az_p64 C Q (26, lv, .int (Int32.ofInt (0)) :: st, h) := az_wp_iff
theorem az_s64_26 {a : Nat} {v1 v2 : Value} : az_p64 C Q (26, lv, v2 :: v1 :: .ref a :: st, h) ↔ az_isob (h.1 a) 8 = true ∧ az_cat st ≤ 8 ∧ az_mc C 96 [.ref a, v1, v2] h (fun v h' => az_p64 C Q (29, lv, v ++ st, h')) := az_wp_iff.trans (az_go_if.trans (and_congr Iff.rfl az_go_call))
theorem az_s64_29 : az_p64 C Q (29, lv, st, h) ↔ az_p64 C Q (74, lv, st, h) := az_wp_iff
theorem az_s64_32 : az_p64 C Q (32, lv, st, h) ↔ az_ma (lv 0) (fun x => az_p64 C Q (33, lv, x :: st, h)) := az_wp_iff.trans az_go_lda
theorem az_s64_33 : az_p64 C Q (33, lv, st, h) ↔ az_ma (lv 1) (fun x => az_p64 C Q (34, lv, x :: st, h)) := az_wp_iff.trans az_go_lda
theorem az_s64_34 : az_p64 C Q (34, lv, st, h) ↔ az_ma (lv 1) (fun x => az_p64 C Q (35, lv, x :: st, h)) := az_wp_iff.trans az_go_lda
theorem az_s64_35 {a : Nat} : az_p64 C Q (35, lv, .ref a :: st, h) ↔ az_mf (h.1 a) 8 18 (fun v => az_p64 C Q (38, lv, v :: st, h)) := az_wp_iff.trans az_go_gf
theorem az_s64_38 {a : Nat} : az_p64 C Q (38, lv, .ref a :: st, h) ↔ az_mf (h.1 a) 4 0 (fun v => az_p64 C Q (41, lv, v :: st, h)) := az_wp_iff.trans az_go_gf
theorem az_s64_41 : az_p64 C Q (41, lv, st, h) ↔ az_mi (lv 2) (fun x => az_p64 C Q (42, lv, .int x :: st, h)) := az_wp_iff.trans az_go_ldi
theorem az_s64_42 {a : Nat} {v1 v2 v3 : Value} : az_p64 C Q (42, lv, v3 :: v2 :: v1 :: .ref a :: st, h) ↔ az_isob (h.1 a) 7 = true ∧ az_cat st ≤ 8 ∧ az_mc C 65 [.ref a, v1, v2, v3] h (fun v h' => az_p64 C Q (45, lv, v ++ st, h')) := az_wp_iff.trans (az_go_if.trans (and_congr Iff.rfl az_go_call))
theorem az_s64_45 : az_p64 C Q (45, lv, st, h) ↔ az_ma (lv 0) (fun x => az_p64 C Q (46, lv, x :: st, h)) := az_wp_iff.trans az_go_lda
theorem az_s64_46 : az_p64 C Q (46, lv, st, h) ↔ az_ma (lv 1) (fun x => az_p64 C Q (47, lv, x :: st, h)) := az_wp_iff.trans az_go_lda
theorem az_s64_47 : az_p64 C Q (47, lv, st, h) ↔ az_ma (lv 1) (fun x => az_p64 C Q (48, lv, x :: st, h)) := az_wp_iff.trans az_go_lda
theorem az_s64_48 {a : Nat} : az_p64 C Q (48, lv, .ref a :: st, h) ↔ az_mf (h.1 a) 8 18 (fun v => az_p64 C Q (51, lv, v :: st, h)) := az_wp_iff.trans az_go_gf
theorem az_s64_51 {a : Nat} : az_p64 C Q (51, lv, .ref a :: st, h) ↔ az_mf (h.1 a) 4 1 (fun v => az_p64 C Q (54, lv, v :: st, h)) := az_wp_iff.trans az_go_gf
theorem az_s64_54 : az_p64 C Q (54, lv, st, h) ↔ az_mi (lv 2) (fun x => az_p64 C Q (55, lv, .int x :: st, h)) := az_wp_iff.trans az_go_ldi
theorem az_s64_55 {a : Nat} {v1 v2 v3 : Value} : az_p64 C Q (55, lv, v3 :: v2 :: v1 :: .ref a :: st, h) ↔ az_isob (h.1 a) 7 = true ∧ az_cat st ≤ 8 ∧ az_mc C 65 [.ref a, v1, v2, v3] h (fun v h' => az_p64 C Q (58, lv, v ++ st, h')) := az_wp_iff.trans (az_go_if.trans (and_congr Iff.rfl az_go_call))
theorem az_s64_58 : az_p64 C Q (58, lv, st, h) ↔ az_ma (lv 1) (fun x => az_p64 C Q (59, lv, x :: st, h)) := az_wp_iff.trans az_go_lda
theorem az_s64_59 {a : Nat} : az_p64 C Q (59, lv, .ref a :: st, h) ↔ az_mf (h.1 a) 8 18 (fun v => az_p64 C Q (62, lv, v :: st, h)) := az_wp_iff.trans az_go_gf
theorem az_s64_62 {a : Nat}  : az_p64 C Q (62, lv, .ref a :: st, h) ↔ az_isob (h.1 a) 4 = true ∧ az_cat st ≤ 8 ∧ az_mc C 31 [.ref a] h (fun v h' => az_p64 C Q (65, lv, v ++ st, h')) := az_wp_iff.trans (az_go_if.trans (and_congr Iff.rfl az_go_call))
theorem az_s64_65 : az_p64 C Q (65, lv, st, h) ↔ az_ma (lv 1) (fun x => az_p64 C Q (66, lv, x :: st, h)) := az_wp_iff.trans az_go_lda
theorem az_s64_66 : az_p64 C Q (66, lv, st, h) ↔ az_p64 C Q (67, lv, .int (Int32.ofInt (3)) :: st, h) := az_wp_iff
theorem az_s64_67 : az_p64 C Q (67, lv, st, h) ↔ az_ma (lv 1) (fun x => az_p64 C Q (68, lv, x :: st, h)) := az_wp_iff.trans az_go_lda
theorem az_s64_68 {a : Nat} : az_p64 C Q (68, lv, .ref a :: st, h) ↔ az_mf (h.1 a) 8 10 (fun v => az_p64 C Q (71, lv, v :: st, h)) := az_wp_iff.trans az_go_gf
theorem az_s64_71 {a : Nat} {v1 v2 : Value} : az_p64 C Q (71, lv, v2 :: v1 :: .ref a :: st, h) ↔ az_isob (h.1 a) 8 = true ∧ az_cat st ≤ 8 ∧ az_mc C 96 [.ref a, v1, v2] h (fun v h' => az_p64 C Q (74, lv, v ++ st, h')) := az_wp_iff.trans (az_go_if.trans (and_congr Iff.rfl az_go_call))
theorem az_s64_74 : az_p64 C Q (74, lv, [], h) ↔ Q none h := az_wp_iff
def az_p65 (C : az_Cl) (Q : Option Value → az_H → Prop) : az_S → Prop := az_wp C (fun _ => none) none (az_fn az_k65) Q
theorem az_s65_0 : az_p65 C Q (0, lv, st, h) ↔ az_mi (lv 2) (fun x => az_p65 C Q (1, lv, .int x :: st, h)) := az_wp_iff.trans az_go_ldi
theorem az_s65_1 : az_p65 C Q (1, lv, st, h) ↔ az_p65 C Q (2, lv, .int (Int32.ofInt (-1)) :: st, h) := az_wp_iff
theorem az_s65_2 {x y : Int32} : az_p65 C Q (2, lv, .int y :: .int x :: st, h) ↔ (x = y → az_p65 C Q (30, lv, st, h)) ∧ (¬ x = y → az_p65 C Q (5, lv, st, h)) := az_wp_iff.trans (az_go_if2 az_d_eq)
theorem az_s65_5 : az_p65 C Q (5, lv, st, h) ↔ az_ma (lv 0) (fun x => az_p65 C Q (6, lv, x :: st, h)) := az_wp_iff.trans az_go_lda
theorem az_s65_6 {a : Nat} : az_p65 C Q (6, lv, .ref a :: st, h) ↔ az_mf (h.1 a) 7 2 (fun v => az_p65 C Q (9, lv, v :: st, h)) := az_wp_iff.trans az_go_gf
theorem az_s65_9 : az_p65 C Q (9, lv, st, h) ↔ az_mi (lv 2) (fun x => az_p65 C Q (10, lv, .int x :: st, h)) := az_wp_iff.trans az_go_ldi
theorem az_s65_10 : az_p65 C Q (10, lv, st, h) ↔ az_ma (lv 1) (fun x => az_p65 C Q (11, lv, x :: st, h)) := az_wp_iff.trans az_go_lda
theorem az_s65_11 {a : Nat} : az_p65 C Q (11, lv, .ref a :: st, h) ↔ az_mf (h.1 a) 8 0 (fun v => az_p65 C Q (14, lv, v :: st, h)) := az_wp_iff.trans az_go_gf
theorem az_s65_14 : az_p65 C Q (14, lv, st, h) ↔ az_mi (lv 3) (fun x => az_p65 C Q (15, lv, .int x :: st, h)) := az_wp_iff.trans az_go_ldi
theorem az_s65_15 : az_p65 C Q (15, lv, st, h) ↔ az_ma (lv 0) (fun x => az_p65 C Q (16, lv, x :: st, h)) := az_wp_iff.trans az_go_lda
theorem az_s65_16 {a : Nat} : az_p65 C Q (16, lv, .ref a :: st, h) ↔ az_mf (h.1 a) 7 5 (fun v => az_p65 C Q (19, lv, v :: st, h)) := az_wp_iff.trans az_go_gf
theorem az_s65_19 : az_p65 C Q (19, lv, st, h) ↔ az_ma (lv 0) (fun x => az_p65 C Q (20, lv, x :: st, h)) := az_wp_iff.trans az_go_lda
theorem az_s65_20 {a : Nat} : az_p65 C Q (20, lv, .ref a :: st, h) ↔ az_mf (h.1 a) 7 1 (fun v => az_p65 C Q (23, lv, v :: st, h)) := az_wp_iff.trans az_go_gf
theorem az_s65_23 : az_p65 C Q (23, lv, st, h) ↔ az_mi (lv 2) (fun x => az_p65 C Q (24, lv, .int x :: st, h)) := az_wp_iff.trans az_go_ldi
theorem az_s65_24 {a : Nat} {v1 : Value} : az_p65 C Q (24, lv, v1 :: .ref a :: st, h) ↔ az_isob (h.1 a) 5 = true ∧ az_cat st ≤ 8 ∧ az_mc C 40 [.ref a, v1] h (fun v h' => az_p65 C Q (27, lv, v ++ st, h')) := az_wp_iff.trans (az_go_if.trans (and_congr Iff.rfl az_go_call))
theorem az_s65_27 {a : Nat} {v1 v2 v3 v4 v5 : Value} : az_p65 C Q (27, lv, v5 :: v4 :: v3 :: v2 :: v1 :: .ref a :: st, h) ↔ az_isob (h.1 a) 3 = true ∧ az_cat st ≤ 8 ∧ az_mc C 27 [.ref a, v1, v2, v3, v4, v5] h (fun v h' => az_p65 C Q (30, lv, v ++ st, h')) := az_wp_iff.trans (az_go_if.trans (and_congr Iff.rfl az_go_call))
theorem az_s65_30 : az_p65 C Q (30, lv, [], h) ↔ Q none h := az_wp_iff
def az_p66 (C : az_Cl) (Q : Option Value → az_H → Prop) : az_S → Prop := az_wp C (fun _ => none) none (az_fn az_k66) Q
theorem az_s66_0 : az_p66 C Q (0, lv, st, h) ↔ az_ma (lv 1) (fun x => az_p66 C Q (1, lv, x :: st, h)) := az_wp_iff.trans az_go_lda
theorem az_s66_1n : az_p66 C Q (1, lv, .null :: st, h) ↔ az_p66 C Q (20, lv, st, h) := az_wp_iff
theorem az_s66_1 {x : Nat} : az_p66 C Q (1, lv, .ref x :: st, h) ↔ az_p66 C Q (4, lv, st, h) := az_wp_iff
theorem az_s66_4 : az_p66 C Q (4, lv, st, h) ↔ az_ma (lv 1) (fun x => az_p66 C Q (5, lv, x :: st, h)) := az_wp_iff.trans az_go_lda
theorem az_s66_5 {a : Nat} : az_p66 C Q (5, lv, .ref a :: st, h) ↔ az_mf (h.1 a) 8 11 (fun v => az_p66 C Q (8, lv, v :: st, h)) := az_wp_iff.trans az_go_gf
theorem az_s66_8 : az_p66 C Q (8, lv, st, h) ↔ az_p66 C Q (9, lv, .int (Int32.ofInt (2)) :: st, h) := az_wp_iff
theorem az_s66_9 {x y : Int32} : az_p66 C Q (9, lv, .int y :: .int x :: st, h) ↔ (¬ x = y → az_p66 C Q (20, lv, st, h)) ∧ (¬ ¬ x = y → az_p66 C Q (12, lv, st, h)) := az_wp_iff.trans (az_go_if2 az_d_eq)
theorem az_s66_12 : az_p66 C Q (12, lv, st, h) ↔ az_ma (lv 0) (fun x => az_p66 C Q (13, lv, x :: st, h)) := az_wp_iff.trans az_go_lda
theorem az_s66_13 : az_p66 C Q (13, lv, st, h) ↔ az_ma (lv 1) (fun x => az_p66 C Q (14, lv, x :: st, h)) := az_wp_iff.trans az_go_lda
theorem az_s66_14 {a : Nat} {v1 : Value} : az_p66 C Q (14, lv, v1 :: .ref a :: st, h) ↔ az_isob (h.1 a) 7 = true ∧ az_cat st ≤ 8 ∧ az_mc C 67 [.ref a, v1] h (fun v h' => az_p66 C Q (17, lv, v ++ st, h')) := az_wp_iff.trans (az_go_if.trans (and_congr Iff.rfl az_go_call))
theorem az_s66_17 {x : Int32} : az_p66 C Q (17, lv, .int x :: st, h) ↔ (¬ x = 0 → az_p66 C Q (21, lv, st, h)) ∧ (¬ ¬ x = 0 → az_p66 C Q (20, lv, st, h)) := az_wp_iff.trans (az_go_if1 az_d_eq)
theorem az_s66_20 : az_p66 C Q (20, lv, [], h) ↔ Q none h := az_wp_iff
theorem az_s66_21 : az_p66 C Q (21, lv, st, h) ↔ az_p66 C Q (22, lv, .int (Int32.ofInt (0)) :: st, h) := az_wp_iff
theorem az_s66_22 {x : Int32} : az_p66 C Q (22, lv, .int x :: st, h) ↔ az_p66 C Q (23, (az_s1 lv 2 (.int x)), st, h) := az_wp_iff
theorem az_s66_23 : az_p66 C Q (23, lv, st, h) ↔ az_mi (lv 2) (fun x => az_p66 C Q (24, lv, .int x :: st, h)) := az_wp_iff.trans az_go_ldi
theorem az_s66_24 : az_p66 C Q (24, lv, st, h) ↔ az_ma (lv 1) (fun x => az_p66 C Q (25, lv, x :: st, h)) := az_wp_iff.trans az_go_lda
theorem az_s66_25 {a : Nat} : az_p66 C Q (25, lv, .ref a :: st, h) ↔ az_mf (h.1 a) 8 8 (fun v => az_p66 C Q (28, lv, v :: st, h)) := az_wp_iff.trans az_go_gf
theorem az_s66_28 {x y : Int32} : az_p66 C Q (28, lv, .int y :: .int x :: st, h) ↔ (y ≤ x → az_p66 C Q (69, lv, st, h)) ∧ (¬ y ≤ x → az_p66 C Q (31, lv, st, h)) := az_wp_iff.trans (az_go_if2 az_d_eq)
theorem az_s66_31 : az_p66 C Q (31, lv, st, h) ↔ az_ma (lv 1) (fun x => az_p66 C Q (32, lv, x :: st, h)) := az_wp_iff.trans az_go_lda
theorem az_s66_32 {a : Nat} : az_p66 C Q (32, lv, .ref a :: st, h) ↔ az_mf (h.1 a) 8 18 (fun v => az_p66 C Q (35, lv, v :: st, h)) := az_wp_iff.trans az_go_gf
theorem az_s66_35 : az_p66 C Q (35, lv, st, h) ↔ az_mi (lv 2) (fun x => az_p66 C Q (36, lv, .int x :: st, h)) := az_wp_iff.trans az_go_ldi
theorem az_s66_36 {a : Nat} {v1 : Value} : az_p66 C Q (36, lv, v1 :: .ref a :: st, h) ↔ az_isob (h.1 a) 4 = true ∧ az_cat st ≤ 8 ∧ az_mc C 34 [.ref a, v1] h (fun v h' => az_p66 C Q (39, lv, v ++ st, h')) := az_wp_iff.trans (az_go_if.trans (and_congr Iff.rfl az_go_call))
theorem az_s66_39 {x : Int32} : az_p66 C Q (39, lv, .int x :: st, h) ↔ (x = 0 → az_p66 C Q (63, lv, st, h)) ∧ (¬ x = 0 → az_p66 C Q (42, lv, st, h)) := az_wp_iff.trans (az_go_if1 az_d_eq)
theorem az_s66_42 : az_p66 C Q (42, lv, st, h) ↔ az_ma (lv 0) (fun x => az_p66 C Q (43, lv, x :: st, h)) := az_wp_iff.trans az_go_lda
theorem az_s66_43 : az_p66 C Q (43, lv, st, h) ↔ az_ma (lv 0) (fun x => az_p66 C Q (44, lv, x :: st, h)) := az_wp_iff.trans az_go_lda
theorem az_s66_44 {a : Nat} : az_p66 C Q (44, lv, .ref a :: st, h) ↔ az_mf (h.1 a) 7 0 (fun v => az_p66 C Q (47, lv, v :: st, h)) := az_wp_iff.trans az_go_gf
theorem az_s66_47 : az_p66 C Q (47, lv, st, h) ↔ az_ma (lv 1) (fun x => az_p66 C Q (48, lv, x :: st, h)) := az_wp_iff.trans az_go_lda
theorem az_s66_48 : az_p66 C Q (48, lv, st, h) ↔ az_mi (lv 2) (fun x => az_p66 C Q (49, lv, .int x :: st, h)) := az_wp_iff.trans az_go_ldi
theorem az_s66_49 {a : Nat} {v1 : Value} : az_p66 C Q (49, lv, v1 :: .ref a :: st, h) ↔ az_isob (h.1 a) 8 = true ∧ az_cat st ≤ 8 ∧ az_mc C 86 [.ref a, v1] h (fun v h' => az_p66 C Q (52, lv, v ++ st, h')) := az_wp_iff.trans (az_go_if.trans (and_congr Iff.rfl az_go_call))
theorem az_s66_52 {a : Nat} {v1 : Value} : az_p66 C Q (52, lv, v1 :: .ref a :: st, h) ↔ az_isob (h.1 a) 2 = true ∧ az_cat st ≤ 8 ∧ az_mc C 13 [.ref a, v1] h (fun v h' => az_p66 C Q (55, lv, v ++ st, h')) := az_wp_iff.trans (az_go_if.trans (and_congr Iff.rfl az_go_call))
theorem az_s66_55 : az_p66 C Q (55, lv, st, h) ↔ az_ma (lv 1) (fun x => az_p66 C Q (56, lv, x :: st, h)) := az_wp_iff.trans az_go_lda
theorem az_s66_56 {a : Nat} : az_p66 C Q (56, lv, .ref a :: st, h) ↔ az_mf (h.1 a) 8 18 (fun v => az_p66 C Q (59, lv, v :: st, h)) := az_wp_iff.trans az_go_gf
theorem az_s66_59 : az_p66 C Q (59, lv, st, h) ↔ az_mi (lv 2) (fun x => az_p66 C Q (60, lv, .int x :: st, h)) := az_wp_iff.trans az_go_ldi
theorem az_s66_60 {a : Nat} {v1 v2 v3 : Value} : az_p66 C Q (60, lv, v3 :: v2 :: v1 :: .ref a :: st, h) ↔ az_isob (h.1 a) 7 = true ∧ az_cat st ≤ 8 ∧ az_mc C 68 [.ref a, v1, v2, v3] h (fun v h' => az_p66 C Q (63, lv, v ++ st, h')) := az_wp_iff.trans (az_go_if.trans (and_congr Iff.rfl az_go_call))
theorem az_s66_63 : az_p66 C Q (63, lv, st, h) ↔ az_mi (lv 2) (fun x => az_p66 C Q (66, (az_s1 lv 2 (.int (x + Int32.ofInt (1)))), st, h)) := az_wp_iff.trans az_go_inc
theorem az_s66_66 : az_p66 C Q (66, lv, st, h) ↔ az_p66 C Q (23, lv, st, h) := az_wp_iff
theorem az_s66_69 : az_p66 C Q (69, lv, st, h) ↔ az_ma (lv 1) (fun x => az_p66 C Q (70, lv, x :: st, h)) := az_wp_iff.trans az_go_lda
theorem az_s66_70 {a : Nat} : az_p66 C Q (70, lv, .ref a :: st, h) ↔ az_mf (h.1 a) 8 18 (fun v => az_p66 C Q (73, lv, v :: st, h)) := az_wp_iff.trans az_go_gf
theorem az_s66_73 {a : Nat}  : az_p66 C Q (73, lv, .ref a :: st, h) ↔ az_isob (h.1 a) 4 = true ∧ az_cat st ≤ 8 ∧ az_mc C 31 [.ref a] h (fun v h' => az_p66 C Q (76, lv, v ++ st, h')) := az_wp_iff.trans (az_go_if.trans (and_congr Iff.rfl az_go_call))
theorem az_s66_76 : az_p66 C Q (76, lv, st, h) ↔ az_ma (lv 1) (fun x => az_p66 C Q (77, lv, x :: st, h)) := az_wp_iff.trans az_go_lda
theorem az_s66_77 : az_p66 C Q (77, lv, st, h) ↔ az_p66 C Q (78, lv, .int (Int32.ofInt (0)) :: st, h) := az_wp_iff
theorem az_s66_78 : az_p66 C Q (78, lv, st, h) ↔ az_p66 C Q (79, lv, .int (Int32.ofInt (0)) :: st, h) := az_wp_iff
theorem az_s66_79 {a : Nat} {v1 v2 : Value} : az_p66 C Q (79, lv, v2 :: v1 :: .ref a :: st, h) ↔ az_isob (h.1 a) 8 = true ∧ az_cat st ≤ 8 ∧ az_mc C 96 [.ref a, v1, v2] h (fun v h' => az_p66 C Q (82, lv, v ++ st, h')) := az_wp_iff.trans (az_go_if.trans (and_congr Iff.rfl az_go_call))
theorem az_s66_82 : az_p66 C Q (82, lv, [], h) ↔ Q none h := az_wp_iff
end AzStC1
