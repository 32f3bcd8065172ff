-- deps:
section AzStC2
variable {C : az_Cl} {Q : Option Value → az_H → Prop} {lv : az_L} {st : List Value} {h : az_H}
def az_p67 (C : az_Cl) (Q : Option Value → az_H → Prop) : az_S → Prop := az_wp C (fun _ => none) (some .boolean) (az_fn az_k67) Q
theorem az_s67_0 : az_p67 C Q (0, lv, st, h) ↔ az_ma (lv 0) (fun x => az_p67 C Q (1, lv, x :: st, h)) := az_wp_iff.trans az_go_lda
theorem az_s67_1 {a : Nat} : az_p67 C Q (1, lv, .ref a :: st, h) ↔ az_mf (h.1 a) 7 1 (fun v => az_p67 C Q (4, lv, v :: st, h)) := az_wp_iff.trans az_go_gf
theorem az_s67_4 : az_p67 C Q (4, lv, st, h) ↔ az_ma (lv 1) (fun x => az_p67 C Q (5, lv, x :: st, h)) := az_wp_iff.trans az_go_lda
theorem az_s67_5 {a : Nat} : az_p67 C Q (5, lv, .ref a :: st, h) ↔ az_mf (h.1 a) 8 18 (fun v => az_p67 C Q (8, lv, v :: st, h)) := az_wp_iff.trans az_go_gf
theorem az_s67_8 {a : Nat}  : az_p67 C Q (8, lv, .ref a :: st, h) ↔ az_isob (h.1 a) 4 = true ∧ az_cat st ≤ 8 ∧ az_mc C 35 [.ref a] h (fun v h' => az_p67 C Q (11, lv, v ++ st, h')) := az_wp_iff.trans (az_go_if.trans (and_congr Iff.rfl az_go_call))
theorem az_s67_11 {a : Nat} {v1 : Value} : az_p67 C Q (11, lv, v1 :: .ref a :: st, h) ↔ az_isob (h.1 a) 5 = true ∧ az_cat st ≤ 8 ∧ az_mc C 39 [.ref a, v1] h (fun v h' => az_p67 C Q (14, lv, v ++ st, h')) := az_wp_iff.trans (az_go_if.trans (and_congr Iff.rfl az_go_call))
theorem az_s67_14 {x : Int32} : az_p67 C Q (14, lv, .int x :: st, h) ↔ (¬ x = 0 → az_p67 C Q (19, lv, st, h)) ∧ (¬ ¬ x = 0 → az_p67 C Q (17, lv, st, h)) := az_wp_iff.trans (az_go_if1 az_d_eq)
theorem az_s67_17 : az_p67 C Q (17, lv, st, h) ↔ az_p67 C Q (18, lv, .int (Int32.ofInt (0)) :: st, h) := az_wp_iff
theorem az_s67_18 {x : Int32} : az_p67 C Q (18, lv, [.int x], h) ↔ (x = 0 ∨ x = 1) ∧ Q (some (.int x)) h := az_wp_iff.trans az_go_if
theorem az_s67_19 : az_p67 C Q (19, lv, st, h) ↔ az_p67 C Q (20, lv, .int (Int32.ofInt (0)) :: st, h) := az_wp_iff
theorem az_s67_20 {x : Int32} : az_p67 C Q (20, lv, .int x :: st, h) ↔ az_p67 C Q (21, (az_s1 lv 2 (.int x)), st, h) := az_wp_iff
theorem az_s67_21 : az_p67 C Q (21, lv, st, h) ↔ az_mi (lv 2) (fun x => az_p67 C Q (22, lv, .int x :: st, h)) := az_wp_iff.trans az_go_ldi
theorem az_s67_22 : az_p67 C Q (22, lv, st, h) ↔ az_ma (lv 1) (fun x => az_p67 C Q (23, lv, x :: st, h)) := az_wp_iff.trans az_go_lda
theorem az_s67_23 {a : Nat} : az_p67 C Q (23, lv, .ref a :: st, h) ↔ az_mf (h.1 a) 8 8 (fun v => az_p67 C Q (26, lv, v :: st, h)) := az_wp_iff.trans az_go_gf
theorem az_s67_26 {x y : Int32} : az_p67 C Q (26, lv, .int y :: .int x :: st, h) ↔ (y ≤ x → az_p67 C Q (60, lv, st, h)) ∧ (¬ y ≤ x → az_p67 C Q (29, lv, st, h)) := az_wp_iff.trans (az_go_if2 az_d_eq)
theorem az_s67_29 : az_p67 C Q (29, lv, st, h) ↔ az_ma (lv 1) (fun x => az_p67 C Q (30, lv, x :: st, h)) := az_wp_iff.trans az_go_lda
theorem az_s67_30 {a : Nat} : az_p67 C Q (30, lv, .ref a :: st, h) ↔ az_mf (h.1 a) 8 18 (fun v => az_p67 C Q (33, lv, v :: st, h)) := az_wp_iff.trans az_go_gf
theorem az_s67_33 : az_p67 C Q (33, lv, st, h) ↔ az_mi (lv 2) (fun x => az_p67 C Q (34, lv, .int x :: st, h)) := az_wp_iff.trans az_go_ldi
theorem az_s67_34 {a : Nat} {v1 : Value} : az_p67 C Q (34, lv, v1 :: .ref a :: st, h) ↔ az_isob (h.1 a) 4 = true ∧ az_cat st ≤ 8 ∧ az_mc C 34 [.ref a, v1] h (fun v h' => az_p67 C Q (37, lv, v ++ st, h')) := az_wp_iff.trans (az_go_if.trans (and_congr Iff.rfl az_go_call))
theorem az_s67_37 {x : Int32} : az_p67 C Q (37, lv, .int x :: st, h) ↔ (x = 0 → az_p67 C Q (54, lv, st, h)) ∧ (¬ x = 0 → az_p67 C Q (40, lv, st, h)) := az_wp_iff.trans (az_go_if1 az_d_eq)
theorem az_s67_40 : az_p67 C Q (40, lv, st, h) ↔ az_ma (lv 0) (fun x => az_p67 C Q (41, lv, x :: st, h)) := az_wp_iff.trans az_go_lda
theorem az_s67_41 {a : Nat} : az_p67 C Q (41, lv, .ref a :: st, h) ↔ az_mf (h.1 a) 7 0 (fun v => az_p67 C Q (44, lv, v :: st, h)) := az_wp_iff.trans az_go_gf
theorem az_s67_44 : az_p67 C Q (44, lv, st, h) ↔ az_ma (lv 1) (fun x => az_p67 C Q (45, lv, x :: st, h)) := az_wp_iff.trans az_go_lda
theorem az_s67_45 : az_p67 C Q (45, lv, st, h) ↔ az_mi (lv 2) (fun x => az_p67 C Q (46, lv, .int x :: st, h)) := az_wp_iff.trans az_go_ldi
theorem az_s67_46 {a : Nat} {v1 v2 : Value} : az_p67 C Q (46, lv, v2 :: v1 :: .ref a :: st, h) ↔ az_isob (h.1 a) 2 = true ∧ az_cat st ≤ 8 ∧ az_mc C 20 [.ref a, v1, v2] h (fun v h' => az_p67 C Q (49, lv, v ++ st, h')) := az_wp_iff.trans (az_go_if.trans (and_congr Iff.rfl az_go_call))
theorem az_s67_49 {x : Int32} : az_p67 C Q (49, lv, .int x :: st, h) ↔ (x = 0 → az_p67 C Q (54, lv, st, h)) ∧ (¬ x = 0 → az_p67 C Q (52, lv, st, h)) := az_wp_iff.trans (az_go_if1 az_d_eq)
theorem az_s67_52 : az_p67 C Q (52, lv, st, h) ↔ az_p67 C Q (53, lv, .int (Int32.ofInt (0)) :: st, h) := az_wp_iff
theorem az_s67_53 {x : Int32} : az_p67 C Q (53, lv, [.int x], h) ↔ (x = 0 ∨ x = 1) ∧ Q (some (.int x)) h := az_wp_iff.trans az_go_if
theorem az_s67_54 : az_p67 C Q (54, lv, st, h) ↔ az_mi (lv 2) (fun x => az_p67 C Q (57, (az_s1 lv 2 (.int (x + Int32.ofInt (1)))), st, h)) := az_wp_iff.trans az_go_inc
theorem az_s67_57 : az_p67 C Q (57, lv, st, h) ↔ az_p67 C Q (21, lv, st, h) := az_wp_iff
theorem az_s67_60 : az_p67 C Q (60, lv, st, h) ↔ az_p67 C Q (61, lv, .int (Int32.ofInt (1)) :: st, h) := az_wp_iff
theorem az_s67_61 {x : Int32} : az_p67 C Q (61, lv, [.int x], h) ↔ (x = 0 ∨ x = 1) ∧ Q (some (.int x)) h := az_wp_iff.trans az_go_if
def az_p68 (C : az_Cl) (Q : Option Value → az_H → Prop) : az_S → Prop := az_wp C (fun _ => none) none (az_fn az_k68) Q
theorem az_s68_0 : az_p68 C Q (0, lv, st, h) ↔ az_ma (lv 1) (fun x => az_p68 C Q (1, lv, x :: st, h)) := az_wp_iff.trans az_go_lda
theorem az_s68_1n : az_p68 C Q (1, lv, .null :: st, h) ↔ az_p68 C Q (4, lv, st, h) := az_wp_iff
theorem az_s68_1 {x : Nat} : az_p68 C Q (1, lv, .ref x :: st, h) ↔ az_p68 C Q (5, lv, st, h) := az_wp_iff
theorem az_s68_4 : az_p68 C Q (4, lv, [], h) ↔ Q none h := az_wp_iff
theorem az_s68_5 : az_p68 C Q (5, lv, st, h) ↔ az_mi (lv 3) (fun x => az_p68 C Q (6, lv, .int x :: st, h)) := az_wp_iff.trans az_go_ldi
theorem az_s68_6 : az_p68 C Q (6, lv, st, h) ↔ az_ma (lv 2) (fun x => az_p68 C Q (7, lv, x :: st, h)) := az_wp_iff.trans az_go_lda
theorem az_s68_7 {a : Nat} : az_p68 C Q (7, lv, .ref a :: st, h) ↔ az_mf (h.1 a) 4 2 (fun v => az_p68 C Q (10, lv, v :: st, h)) := az_wp_iff.trans az_go_gf
theorem az_s68_10 {x y : Int32} : az_p68 C Q (10, lv, .int y :: .int x :: st, h) ↔ (¬ x = y → az_p68 C Q (22, lv, st, h)) ∧ (¬ ¬ x = y → az_p68 C Q (13, lv, st, h)) := az_wp_iff.trans (az_go_if2 az_d_eq)
theorem az_s68_13 : az_p68 C Q (13, lv, st, h) ↔ az_ma (lv 1) (fun x => az_p68 C Q (14, lv, x :: st, h)) := az_wp_iff.trans az_go_lda
theorem az_s68_14 : az_p68 C Q (14, lv, st, h) ↔ az_ma (lv 2) (fun x => az_p68 C Q (15, lv, x :: st, h)) := az_wp_iff.trans az_go_lda
theorem az_s68_15 {a : Nat} : az_p68 C Q (15, lv, .ref a :: st, h) ↔ az_mf (h.1 a) 4 0 (fun v => az_p68 C Q (18, lv, v :: st, h)) := az_wp_iff.trans az_go_gf
theorem az_s68_18 {a : Nat} {v1 : Value} : az_p68 C Q (18, lv, v1 :: .ref a :: st, h) ↔ az_isob (h.1 a) 0 = true ∧ az_cat st ≤ 8 ∧ az_mc C 3 [.ref a, v1] h (fun v h' => az_p68 C Q (21, lv, v ++ st, h')) := az_wp_iff.trans (az_go_if.trans (and_congr Iff.rfl az_go_call))
theorem az_s68_21 : az_p68 C Q (21, lv, [], h) ↔ Q none h := az_wp_iff
theorem az_s68_22 : az_p68 C Q (22, lv, st, h) ↔ az_p68 C Q (24, lv, .int (Int32.ofInt (9)) :: st, h) := az_wp_iff
theorem az_s68_24 : az_p68 C Q (24, lv, st, h) ↔ az_ma (lv 0) (fun x => az_p68 C Q (25, lv, x :: st, h)) := az_wp_iff.trans az_go_lda
theorem az_s68_25 {a : Nat} : az_p68 C Q (25, lv, .ref a :: st, h) ↔ az_mf (h.1 a) 7 1 (fun v => az_p68 C Q (28, lv, v :: st, h)) := az_wp_iff.trans az_go_gf
theorem az_s68_28 : az_p68 C Q (28, lv, st, h) ↔ az_ma (lv 2) (fun x => az_p68 C Q (29, lv, x :: st, h)) := az_wp_iff.trans az_go_lda
theorem az_s68_29 {a : Nat} : az_p68 C Q (29, lv, .ref a :: st, h) ↔ az_mf (h.1 a) 4 0 (fun v => az_p68 C Q (32, lv, v :: st, h)) := az_wp_iff.trans az_go_gf
theorem az_s68_32 {a : Nat} {v1 : Value} : az_p68 C Q (32, lv, v1 :: .ref a :: st, h) ↔ az_isob (h.1 a) 5 = true ∧ az_cat st ≤ 8 ∧ az_mc C 41 [.ref a, v1] h (fun v h' => az_p68 C Q (35, lv, v ++ st, h')) := az_wp_iff.trans (az_go_if.trans (and_congr Iff.rfl az_go_call))
theorem az_s68_35 : az_p68 C Q (35, lv, st, h) ↔ az_mi (lv 3) (fun x => az_p68 C Q (36, lv, .int x :: st, h)) := az_wp_iff.trans az_go_ldi
theorem az_s68_36 {x y : Int32} : az_p68 C Q (36, lv, .int y :: .int x :: st, h) ↔ az_p68 C Q (37, lv, .int (x + y) :: st, h) := az_wp_iff
theorem az_s68_37 {x y : Int32} : az_p68 C Q (37, lv, .int y :: .int x :: st, h) ↔ az_cat st ≤ 8 ∧ az_p68 C Q (40, lv, .int (if decide (y < x) = true then y else x) :: st, h) := az_wp_iff.trans az_go_if
theorem az_s68_40 {x : Int32} : az_p68 C Q (40, lv, .int x :: st, h) ↔ az_p68 C Q (42, (az_s1 lv 4 (.int x)), st, h) := az_wp_iff
theorem az_s68_42 : az_p68 C Q (42, lv, st, h) ↔ az_ma (lv 1) (fun x => az_p68 C Q (43, lv, x :: st, h)) := az_wp_iff.trans az_go_lda
theorem az_s68_43 : az_p68 C Q (43, lv, st, h) ↔ az_ma (lv 0) (fun x => az_p68 C Q (44, lv, x :: st, h)) := az_wp_iff.trans az_go_lda
theorem az_s68_44 {a : Nat} : az_p68 C Q (44, lv, .ref a :: st, h) ↔ az_mf (h.1 a) 7 1 (fun v => az_p68 C Q (47, lv, v :: st, h)) := az_wp_iff.trans az_go_gf
theorem az_s68_47 : az_p68 C Q (47, lv, st, h) ↔ az_ma (lv 2) (fun x => az_p68 C Q (48, lv, x :: st, h)) := az_wp_iff.trans az_go_lda
theorem az_s68_48 {a : Nat} : az_p68 C Q (48, lv, .ref a :: st, h) ↔ az_mf (h.1 a) 4 0 (fun v => az_p68 C Q (51, lv, v :: st, h)) := az_wp_iff.trans az_go_gf
theorem az_s68_51 : az_p68 C Q (51, lv, st, h) ↔ az_ma (lv 2) (fun x => az_p68 C Q (52, lv, x :: st, h)) := az_wp_iff.trans az_go_lda
theorem az_s68_52 : az_p68 C Q (52, lv, st, h) ↔ az_mi (lv 3) (fun x => az_p68 C Q (53, lv, .int x :: st, h)) := az_wp_iff.trans az_go_ldi
theorem az_s68_53 {a : Nat} {v1 : Value} : az_p68 C Q (53, lv, v1 :: .ref a :: st, h) ↔ az_isob (h.1 a) 4 = true ∧ az_cat st ≤ 8 ∧ az_mc C 32 [.ref a, v1] h (fun v h' => az_p68 C Q (56, lv, v ++ st, h')) := az_wp_iff.trans (az_go_if.trans (and_congr Iff.rfl az_go_call))
theorem az_s68_56 : az_p68 C Q (56, lv, st, h) ↔ az_mi (lv 4) (fun x => az_p68 C Q (58, lv, .int x :: st, h)) := az_wp_iff.trans az_go_ldi
theorem az_s68_58 {a : Nat} {v1 v2 v3 : Value} : az_p68 C Q (58, lv, v3 :: v2 :: v1 :: .ref a :: st, h) ↔ az_isob (h.1 a) 5 = true ∧ az_cat st ≤ 8 ∧ az_mc C 47 [.ref a, v1, v2, v3] h (fun v h' => az_p68 C Q (61, lv, v ++ st, h')) := az_wp_iff.trans (az_go_if.trans (and_congr Iff.rfl az_go_call))
theorem az_s68_61 {a : Nat} {v1 : Value} : az_p68 C Q (61, lv, v1 :: .ref a :: st, h) ↔ az_isob (h.1 a) 0 = true ∧ az_cat st ≤ 8 ∧ az_mc C 3 [.ref a, v1] h (fun v h' => az_p68 C Q (64, lv, v ++ st, h')) := az_wp_iff.trans (az_go_if.trans (and_congr Iff.rfl az_go_call))
theorem az_s68_64 : az_p68 C Q (64, lv, [], h) ↔ Q none h := az_wp_iff
def az_p69 (C : az_Cl) (Q : Option Value → az_H → Prop) : az_S → Prop := az_wp C (fun _ => none) none (az_fn az_k69) Q
theorem az_s69_0 : az_p69 C Q (0, lv, st, h) ↔ az_ma (lv 1) (fun x => az_p69 C Q (1, lv, x :: st, h)) := az_wp_iff.trans az_go_lda
theorem az_s69_1n : az_p69 C Q (1, lv, .null :: st, h) ↔ az_p69 C Q (19, lv, st, h) := az_wp_iff
theorem az_s69_1 {x : Nat} : az_p69 C Q (1, lv, .ref x :: st, h) ↔ az_p69 C Q (4, lv, st, h) := az_wp_iff
theorem az_s69_4 : az_p69 C Q (4, lv, st, h) ↔ az_ma (lv 1) (fun x => az_p69 C Q (5, lv, x :: st, h)) := az_wp_iff.trans az_go_lda
theorem az_s69_5 {a : Nat} : az_p69 C Q (5, lv, .ref a :: st, h) ↔ az_mf (h.1 a) 8 11 (fun v => az_p69 C Q (8, lv, v :: st, h)) := az_wp_iff.trans az_go_gf
theorem az_s69_8 {x : Int32} : az_p69 C Q (8, lv, .int x :: st, h) ↔ (¬ x = 0 → az_p69 C Q (19, lv, st, h)) ∧ (¬ ¬ x = 0 → az_p69 C Q (11, lv, st, h)) := az_wp_iff.trans (az_go_if1 az_d_eq)
theorem az_s69_11 : az_p69 C Q (11, lv, st, h) ↔ az_ma (lv 0) (fun x => az_p69 C Q (12, lv, x :: st, h)) := az_wp_iff.trans az_go_lda
theorem az_s69_12 : az_p69 C Q (12, lv, st, h) ↔ az_ma (lv 1) (fun x => az_p69 C Q (13, lv, x :: st, h)) := az_wp_iff.trans az_go_lda
theorem az_s69_13 {a : Nat} {v1 : Value} : az_p69 C Q (13, lv, v1 :: .ref a :: st, h) ↔ az_isob (h.1 a) 7 = true ∧ az_cat st ≤ 8 ∧ az_mc C 70 [.ref a, v1] h (fun v h' => az_p69 C Q (16, lv, v ++ st, h')) := az_wp_iff.trans (az_go_if.trans (and_congr Iff.rfl az_go_call))
theorem az_s69_16 {x : Int32} : az_p69 C Q (16, lv, .int x :: st, h) ↔ (¬ x = 0 → az_p69 C Q (20, lv, st, h)) ∧ (¬ ¬ x = 0 → az_p69 C Q (19, lv, st, h)) := az_wp_iff.trans (az_go_if1 az_d_eq)
theorem az_s69_19 : az_p69 C Q (19, lv, [], h) ↔ Q none h := az_wp_iff
theorem az_s69_20 : az_p69 C Q (20, lv, st, h) ↔ az_p69 C Q (21, lv, .int (Int32.ofInt (0)) :: st, h) := az_wp_iff
theorem az_s69_21 {x : Int32} : az_p69 C Q (21, lv, .int x :: st, h) ↔ az_p69 C Q (22, (az_s1 lv 2 (.int x)), st, h) := az_wp_iff
theorem az_s69_22 : az_p69 C Q (22, lv, st, h) ↔ az_mi (lv 2) (fun x => az_p69 C Q (23, lv, .int x :: st, h)) := az_wp_iff.trans az_go_ldi
theorem az_s69_23 : az_p69 C Q (23, lv, st, h) ↔ az_ma (lv 1) (fun x => az_p69 C Q (24, lv, x :: st, h)) := az_wp_iff.trans az_go_lda
theorem az_s69_24 {a : Nat} : az_p69 C Q (24, lv, .ref a :: st, h) ↔ az_mf (h.1 a) 8 5 (fun v => az_p69 C Q (27, lv, v :: st, h)) := az_wp_iff.trans az_go_gf
theorem az_s69_27 {x y : Int32} : az_p69 C Q (27, lv, .int y :: .int x :: st, h) ↔ (y ≤ x → az_p69 C Q (64, lv, st, h)) ∧ (¬ y ≤ x → az_p69 C Q (30, lv, st, h)) := az_wp_iff.trans (az_go_if2 az_d_eq)
theorem az_s69_30 : az_p69 C Q (30, lv, st, h) ↔ az_ma (lv 0) (fun x => az_p69 C Q (31, lv, x :: st, h)) := az_wp_iff.trans az_go_lda
theorem az_s69_31 {a : Nat} : az_p69 C Q (31, lv, .ref a :: st, h) ↔ az_mf (h.1 a) 7 0 (fun v => az_p69 C Q (34, lv, v :: st, h)) := az_wp_iff.trans az_go_gf
theorem az_s69_34 : az_p69 C Q (34, lv, st, h) ↔ az_ma (lv 1) (fun x => az_p69 C Q (35, lv, x :: st, h)) := az_wp_iff.trans az_go_lda
theorem az_s69_35 : az_p69 C Q (35, lv, st, h) ↔ az_mi (lv 2) (fun x => az_p69 C Q (36, lv, .int x :: st, h)) := az_wp_iff.trans az_go_ldi
theorem az_s69_36 {a : Nat} {v1 : Value} : az_p69 C Q (36, lv, v1 :: .ref a :: st, h) ↔ az_isob (h.1 a) 8 = true ∧ az_cat st ≤ 8 ∧ az_mc C 85 [.ref a, v1] h (fun v h' => az_p69 C Q (39, lv, v ++ st, h')) := az_wp_iff.trans (az_go_if.trans (and_congr Iff.rfl az_go_call))
theorem az_s69_39 {a : Nat} {v1 : Value} : az_p69 C Q (39, lv, v1 :: .ref a :: st, h) ↔ az_isob (h.1 a) 2 = true ∧ az_cat st ≤ 8 ∧ az_mc C 13 [.ref a, v1] h (fun v h' => az_p69 C Q (42, lv, v ++ st, h')) := az_wp_iff.trans (az_go_if.trans (and_congr Iff.rfl az_go_call))
theorem az_s69_42 {x : Nat} : az_p69 C Q (42, lv, .ref x :: st, h) ↔ az_p69 C Q (43, (az_s1 lv 3 (.ref x)), st, h) := az_wp_iff
theorem az_s69_42n : az_p69 C Q (42, lv, .null :: st, h) ↔ az_p69 C Q (43, (az_s1 lv 3 .null), st, h) := az_wp_iff
theorem az_s69_43 : az_p69 C Q (43, lv, st, h) ↔ az_ma (lv 3) (fun x => az_p69 C Q (44, lv, x :: st, h)) := az_wp_iff.trans az_go_lda
theorem az_s69_44n : az_p69 C Q (44, lv, .null :: st, h) ↔ az_p69 C Q (58, lv, st, h) := az_wp_iff
theorem az_s69_44 {x : Nat} : az_p69 C Q (44, lv, .ref x :: st, h) ↔ az_p69 C Q (47, lv, st, h) := az_wp_iff
theorem az_s69_47 : az_p69 C Q (47, lv, st, h) ↔ az_ma (lv 1) (fun x => az_p69 C Q (48, lv, x :: st, h)) := az_wp_iff.trans az_go_lda
theorem az_s69_48 {a : Nat} : az_p69 C Q (48, lv, .ref a :: st, h) ↔ az_mf (h.1 a) 8 18 (fun v => az_p69 C Q (51, lv, v :: st, h)) := az_wp_iff.trans az_go_gf
theorem az_s69_51 : az_p69 C Q (51, lv, st, h) ↔ az_ma (lv 3) (fun x => az_p69 C Q (52, lv, x :: st, h)) := az_wp_iff.trans az_go_lda
theorem az_s69_52 {a : Nat}  : az_p69 C Q (52, lv, .ref a :: st, h) ↔ az_isob (h.1 a) 0 = true ∧ az_cat st ≤ 8 ∧ az_mc C 5 [.ref a] h (fun v h' => az_p69 C Q (55, lv, v ++ st, h')) := az_wp_iff.trans (az_go_if.trans (and_congr Iff.rfl az_go_call))
theorem az_s69_55 {a : Nat} {v1 : Value} : az_p69 C Q (55, lv, v1 :: .ref a :: st, h) ↔ az_isob (h.1 a) 4 = true ∧ az_cat st ≤ 8 ∧ az_mc C 30 [.ref a, v1] h (fun v h' => az_p69 C Q (58, lv, v ++ st, h')) := az_wp_iff.trans (az_go_if.trans (and_congr Iff.rfl az_go_call))
theorem az_s69_58 : az_p69 C Q (58, lv, st, h) ↔ az_mi (lv 2) (fun x => az_p69 C Q (61, (az_s1 lv 2 (.int (x + Int32.ofInt (1)))), st, h)) := az_wp_iff.trans az_go_inc
theorem az_s69_61 : az_p69 C Q (61, lv, st, h) ↔ az_p69 C Q (22, lv, st, h) := az_wp_iff
theorem az_s69_64 : az_p69 C Q (64, lv, st, h) ↔ az_ma (lv 1) (fun x => az_p69 C Q (65, lv, x :: st, h)) := az_wp_iff.trans az_go_lda
theorem az_s69_65 : az_p69 C Q (65, lv, st, h) ↔ az_p69 C Q (66, lv, .int (Int32.ofInt (1)) :: st, h) := az_wp_iff
theorem az_s69_66 : az_p69 C Q (66, lv, st, h) ↔ az_ma (lv 1) (fun x => az_p69 C Q (67, lv, x :: st, h)) := az_wp_iff.trans az_go_lda
theorem az_s69_67 {a : Nat} : az_p69 C Q (67, lv, .ref a :: st, h) ↔ az_mf (h.1 a) 8 3 (fun v => az_p69 C Q (70, lv, v :: st, h)) := az_wp_iff.trans az_go_gf
theorem az_s69_70 {a : Nat} {v1 v2 : Value} : az_p69 C Q (70, lv, v2 :: v1 :: .ref a :: st, h) ↔ az_isob (h.1 a) 8 = true ∧ az_cat st ≤ 8 ∧ az_mc C 96 [.ref a, v1, v2] h (fun v h' => az_p69 C Q (73, lv, v ++ st, h')) := az_wp_iff.trans (az_go_if.trans (and_congr Iff.rfl az_go_call))
theorem az_s69_73 : az_p69 C Q (73, lv, [], h) ↔ Q none h := az_wp_iff
def az_p70 (C : az_Cl) (Q : Option Value → az_H → Prop) : az_S → Prop := az_wp C (fun _ => none) (some .boolean) (az_fn az_k70) Q
theorem az_s70_0 : az_p70 C Q (0, lv, st, h) ↔ az_p70 C Q (1, lv, .int (Int32.ofInt (0)) :: st, h) := az_wp_iff
theorem az_s70_1 {x : Int32} : az_p70 C Q (1, lv, .int x :: st, h) ↔ az_p70 C Q (2, (az_s1 lv 2 (.int x)), st, h) := az_wp_iff
theorem az_s70_2 : az_p70 C Q (2, lv, st, h) ↔ az_mi (lv 2) (fun x => az_p70 C Q (3, lv, .int x :: st, h)) := az_wp_iff.trans az_go_ldi
theorem az_s70_3 : az_p70 C Q (3, lv, st, h) ↔ az_ma (lv 1) (fun x => az_p70 C Q (4, lv, x :: st, h)) := az_wp_iff.trans az_go_lda
theorem az_s70_4 {a : Nat} : az_p70 C Q (4, lv, .ref a :: st, h) ↔ az_mf (h.1 a) 8 5 (fun v => az_p70 C Q (7, lv, v :: st, h)) := az_wp_iff.trans az_go_gf
theorem az_s70_7 {x y : Int32} : az_p70 C Q (7, lv, .int y :: .int x :: st, h) ↔ (y ≤ x → az_p70 C Q (42, lv, st, h)) ∧ (¬ y ≤ x → az_p70 C Q (10, lv, st, h)) := az_wp_iff.trans (az_go_if2 az_d_eq)
theorem az_s70_10 : az_p70 C Q (10, lv, st, h) ↔ az_ma (lv 0) (fun x => az_p70 C Q (11, lv, x :: st, h)) := az_wp_iff.trans az_go_lda
theorem az_s70_11 {a : Nat} : az_p70 C Q (11, lv, .ref a :: st, h) ↔ az_mf (h.1 a) 7 0 (fun v => az_p70 C Q (14, lv, v :: st, h)) := az_wp_iff.trans az_go_gf
theorem az_s70_14 : az_p70 C Q (14, lv, st, h) ↔ az_ma (lv 1) (fun x => az_p70 C Q (15, lv, x :: st, h)) := az_wp_iff.trans az_go_lda
theorem az_s70_15 : az_p70 C Q (15, lv, st, h) ↔ az_mi (lv 2) (fun x => az_p70 C Q (16, lv, .int x :: st, h)) := az_wp_iff.trans az_go_ldi
theorem az_s70_16 {a : Nat} {v1 : Value} : az_p70 C Q (16, lv, v1 :: .ref a :: st, h) ↔ az_isob (h.1 a) 8 = true ∧ az_cat st ≤ 8 ∧ az_mc C 85 [.ref a, v1] h (fun v h' => az_p70 C Q (19, lv, v ++ st, h')) := az_wp_iff.trans (az_go_if.trans (and_congr Iff.rfl az_go_call))
theorem az_s70_19 {a : Nat} {v1 : Value} : az_p70 C Q (19, lv, v1 :: .ref a :: st, h) ↔ az_isob (h.1 a) 2 = true ∧ az_cat st ≤ 8 ∧ az_mc C 13 [.ref a, v1] h (fun v h' => az_p70 C Q (22, lv, v ++ st, h')) := az_wp_iff.trans (az_go_if.trans (and_congr Iff.rfl az_go_call))
theorem az_s70_22 {x : Nat} : az_p70 C Q (22, lv, .ref x :: st, h) ↔ az_p70 C Q (23, (az_s1 lv 3 (.ref x)), st, h) := az_wp_iff
theorem az_s70_22n : az_p70 C Q (22, lv, .null :: st, h) ↔ az_p70 C Q (23, (az_s1 lv 3 .null), st, h) := az_wp_iff
theorem az_s70_23 : az_p70 C Q (23, lv, st, h) ↔ az_ma (lv 3) (fun x => az_p70 C Q (24, lv, x :: st, h)) := az_wp_iff.trans az_go_lda
theorem az_s70_24n : az_p70 C Q (24, lv, .null :: st, h) ↔ az_p70 C Q (34, lv, st, h) := az_wp_iff
theorem az_s70_24 {x : Nat} : az_p70 C Q (24, lv, .ref x :: st, h) ↔ az_p70 C Q (27, lv, st, h) := az_wp_iff
theorem az_s70_27 : az_p70 C Q (27, lv, st, h) ↔ az_ma (lv 3) (fun x => az_p70 C Q (28, lv, x :: st, h)) := az_wp_iff.trans az_go_lda
theorem az_s70_28 {a : Nat} : az_p70 C Q (28, lv, .ref a :: st, h) ↔ az_mf (h.1 a) 0 2 (fun v => az_p70 C Q (31, lv, v :: st, h)) := az_wp_iff.trans az_go_gf
theorem az_s70_31 {x : Int32} : az_p70 C Q (31, lv, .int x :: st, h) ↔ (¬ x = 0 → az_p70 C Q (36, lv, st, h)) ∧ (¬ ¬ x = 0 → az_p70 C Q (34, lv, st, h)) := az_wp_iff.trans (az_go_if1 az_d_eq)
theorem az_s70_34 : az_p70 C Q (34, lv, st, h) ↔ az_p70 C Q (35, lv, .int (Int32.ofInt (0)) :: st, h) := az_wp_iff
theorem az_s70_35 {x : Int32} : az_p70 C Q (35, lv, [.int x], h) ↔ (x = 0 ∨ x = 1) ∧ Q (some (.int x)) h := az_wp_iff.trans az_go_if
theorem az_s70_36 : az_p70 C Q (36, lv, st, h) ↔ az_mi (lv 2) (fun x => az_p70 C Q (39, (az_s1 lv 2 (.int (x + Int32.ofInt (1)))), st, h)) := az_wp_iff.trans az_go_inc
theorem az_s70_39 : az_p70 C Q (39, lv, st, h) ↔ az_p70 C Q (2, lv, st, h) := az_wp_iff
theorem az_s70_42 : az_p70 C Q (42, lv, st, h) ↔ az_p70 C Q (43, lv, .int (Int32.ofInt (1)) :: st, h) := az_wp_iff
theorem az_s70_43 {x : Int32} : az_p70 C Q (43, lv, [.int x], h) ↔ (x = 0 ∨ x = 1) ∧ Q (some (.int x)) h := az_wp_iff.trans az_go_if
def az_p71 (C : az_Cl) (Q : Option Value → az_H → Prop) : az_S → Prop := az_wp C (fun _ => none) none (az_fn az_k71) Q
theorem az_s71_0 : az_p71 C Q (0, lv, st, h) ↔ az_p71 C Q (1, lv, .int (Int32.ofInt (0)) :: st, h) := az_wp_iff
theorem az_s71_1 {x : Int32} : az_p71 C Q (1, lv, .int x :: st, h) ↔ az_p71 C Q (2, (az_s1 lv 1 (.int x)), st, h) := az_wp_iff
theorem az_s71_2 : az_p71 C Q (2, lv, st, h) ↔ az_mi (lv 1) (fun x => az_p71 C Q (3, lv, .int x :: st, h)) := az_wp_iff.trans az_go_ldi
theorem az_s71_3 : az_p71 C Q (3, lv, st, h) ↔ az_p71 C Q (5, lv, .int (Int32.ofInt (12)) :: st, h) := az_wp_iff
theorem az_s71_5 {x y : Int32} : az_p71 C Q (5, lv, .int y :: .int x :: st, h) ↔ (y ≤ x → az_p71 C Q (31, lv, st, h)) ∧ (¬ y ≤ x → az_p71 C Q (8, lv, st, h)) := az_wp_iff.trans (az_go_if2 az_d_eq)
theorem az_s71_8 : az_p71 C Q (8, lv, st, h) ↔ az_ma (lv 0) (fun x => az_p71 C Q (9, lv, x :: st, h)) := az_wp_iff.trans az_go_lda
theorem az_s71_9 {a : Nat} : az_p71 C Q (9, lv, .ref a :: st, h) ↔ az_mf (h.1 a) 7 0 (fun v => az_p71 C Q (12, lv, v :: st, h)) := az_wp_iff.trans az_go_gf
theorem az_s71_12 : az_p71 C Q (12, lv, st, h) ↔ az_mi (lv 1) (fun x => az_p71 C Q (13, lv, .int x :: st, h)) := az_wp_iff.trans az_go_ldi
theorem az_s71_13 {a : Nat} {v1 : Value} : az_p71 C Q (13, lv, v1 :: .ref a :: st, h) ↔ az_isob (h.1 a) 2 = true ∧ az_cat st ≤ 8 ∧ az_mc C 14 [.ref a, v1] h (fun v h' => az_p71 C Q (16, lv, v ++ st, h')) := az_wp_iff.trans (az_go_if.trans (and_congr Iff.rfl az_go_call))
theorem az_s71_16 {x : Nat} : az_p71 C Q (16, lv, .ref x :: st, h) ↔ az_p71 C Q (17, (az_s1 lv 2 (.ref x)), st, h) := az_wp_iff
theorem az_s71_16n : az_p71 C Q (16, lv, .null :: st, h) ↔ az_p71 C Q (17, (az_s1 lv 2 .null), st, h) := az_wp_iff
theorem az_s71_17 : az_p71 C Q (17, lv, st, h) ↔ az_ma (lv 2) (fun x => az_p71 C Q (18, lv, x :: st, h)) := az_wp_iff.trans az_go_lda
theorem az_s71_18n : az_p71 C Q (18, lv, .null :: st, h) ↔ az_p71 C Q (25, lv, st, h) := az_wp_iff
theorem az_s71_18 {x : Nat} : az_p71 C Q (18, lv, .ref x :: st, h) ↔ az_p71 C Q (21, lv, st, h) := az_wp_iff
theorem az_s71_21 : az_p71 C Q (21, lv, st, h) ↔ az_ma (lv 2) (fun x => az_p71 C Q (22, lv, x :: st, h)) := az_wp_iff.trans az_go_lda
theorem az_s71_22 {a : Nat}  : az_p71 C Q (22, lv, .ref a :: st, h) ↔ az_isob (h.1 a) 8 = true ∧ az_cat st ≤ 8 ∧ az_mc C 100 [.ref a] h (fun v h' => az_p71 C Q (25, lv, v ++ st, h')) := az_wp_iff.trans (az_go_if.trans (and_congr Iff.rfl az_go_call))
theorem az_s71_25 : az_p71 C Q (25, lv, st, h) ↔ az_mi (lv 1) (fun x => az_p71 C Q (28, (az_s1 lv 1 (.int (x + Int32.ofInt (1)))), st, h)) := az_wp_iff.trans az_go_inc
theorem az_s71_28 : az_p71 C Q (28, lv, st, h) ↔ az_p71 C Q (2, lv, st, h) := az_wp_iff
theorem az_s71_31 : az_p71 C Q (31, lv, st, h) ↔ az_p71 C Q (32, lv, .int (Int32.ofInt (0)) :: st, h) := az_wp_iff
theorem az_s71_32 {x : Int32} : az_p71 C Q (32, lv, .int x :: st, h) ↔ az_p71 C Q (33, (az_s1 lv 1 (.int x)), st, h) := az_wp_iff
theorem az_s71_33 : az_p71 C Q (33, lv, st, h) ↔ az_mi (lv 1) (fun x => az_p71 C Q (34, lv, .int x :: st, h)) := az_wp_iff.trans az_go_ldi
theorem az_s71_34 : az_p71 C Q (34, lv, st, h) ↔ az_p71 C Q (36, lv, .int (Int32.ofInt (16)) :: st, h) := az_wp_iff
theorem az_s71_36 {x y : Int32} : az_p71 C Q (36, lv, .int y :: .int x :: st, h) ↔ (y ≤ x → az_p71 C Q (62, lv, st, h)) ∧ (¬ y ≤ x → az_p71 C Q (39, lv, st, h)) := az_wp_iff.trans (az_go_if2 az_d_eq)
theorem az_s71_39 : az_p71 C Q (39, lv, st, h) ↔ az_ma (lv 0) (fun x => az_p71 C Q (40, lv, x :: st, h)) := az_wp_iff.trans az_go_lda
theorem az_s71_40 {a : Nat} : az_p71 C Q (40, lv, .ref a :: st, h) ↔ az_mf (h.1 a) 7 0 (fun v => az_p71 C Q (43, lv, v :: st, h)) := az_wp_iff.trans az_go_gf
theorem az_s71_43 : az_p71 C Q (43, lv, st, h) ↔ az_mi (lv 1) (fun x => az_p71 C Q (44, lv, .int x :: st, h)) := az_wp_iff.trans az_go_ldi
theorem az_s71_44 {a : Nat} {v1 : Value} : az_p71 C Q (44, lv, v1 :: .ref a :: st, h) ↔ az_isob (h.1 a) 2 = true ∧ az_cat st ≤ 8 ∧ az_mc C 13 [.ref a, v1] h (fun v h' => az_p71 C Q (47, lv, v ++ st, h')) := az_wp_iff.trans (az_go_if.trans (and_congr Iff.rfl az_go_call))
theorem az_s71_47 {x : Nat} : az_p71 C Q (47, lv, .ref x :: st, h) ↔ az_p71 C Q (48, (az_s1 lv 2 (.ref x)), st, h) := az_wp_iff
theorem az_s71_47n : az_p71 C Q (47, lv, .null :: st, h) ↔ az_p71 C Q (48, (az_s1 lv 2 .null), st, h) := az_wp_iff
theorem az_s71_48 : az_p71 C Q (48, lv, st, h) ↔ az_ma (lv 2) (fun x => az_p71 C Q (49, lv, x :: st, h)) := az_wp_iff.trans az_go_lda
theorem az_s71_49n : az_p71 C Q (49, lv, .null :: st, h) ↔ az_p71 C Q (56, lv, st, h) := az_wp_iff
theorem az_s71_49 {x : Nat} : az_p71 C Q (49, lv, .ref x :: st, h) ↔ az_p71 C Q (52, lv, st, h) := az_wp_iff
theorem az_s71_52 : az_p71 C Q (52, lv, st, h) ↔ az_ma (lv 2) (fun x => az_p71 C Q (53, lv, x :: st, h)) := az_wp_iff.trans az_go_lda
theorem az_s71_53 {a : Nat}  : az_p71 C Q (53, lv, .ref a :: st, h) ↔ az_isob (h.1 a) 0 = true ∧ az_cat st ≤ 8 ∧ az_mc C 7 [.ref a] h (fun v h' => az_p71 C Q (56, lv, v ++ st, h')) := az_wp_iff.trans (az_go_if.trans (and_congr Iff.rfl az_go_call))
theorem az_s71_56 : az_p71 C Q (56, lv, st, h) ↔ az_mi (lv 1) (fun x => az_p71 C Q (59, (az_s1 lv 1 (.int (x + Int32.ofInt (1)))), st, h)) := az_wp_iff.trans az_go_inc
theorem az_s71_59 : az_p71 C Q (59, lv, st, h) ↔ az_p71 C Q (33, lv, st, h) := az_wp_iff
theorem az_s71_62 : az_p71 C Q (62, lv, [], h) ↔ Q none h := az_wp_iff
def az_p72 (C : az_Cl) (Q : Option Value → az_H → Prop) : az_S → Prop := az_wp C (fun _ => none) none (az_fn az_k72) Q
theorem az_s72_0 : az_p72 C Q (0, lv, st, h) ↔ az_p72 C Q (1, lv, .int (Int32.ofInt (0)) :: st, h) := az_wp_iff
theorem az_s72_1 {x : Int32} : az_p72 C Q (1, lv, .int x :: st, h) ↔ az_p72 C Q (2, (az_s1 lv 1 (.int x)), st, h) := az_wp_iff
theorem az_s72_2 : az_p72 C Q (2, lv, st, h) ↔ az_mi (lv 1) (fun x => az_p72 C Q (3, lv, .int x :: st, h)) := az_wp_iff.trans az_go_ldi
theorem az_s72_3 : az_p72 C Q (3, lv, st, h) ↔ az_p72 C Q (5, lv, .int (Int32.ofInt (12)) :: st, h) := az_wp_iff
theorem az_s72_5 {x y : Int32} : az_p72 C Q (5, lv, .int y :: .int x :: st, h) ↔ (y ≤ x → az_p72 C Q (49, lv, st, h)) ∧ (¬ y ≤ x → az_p72 C Q (8, lv, st, h)) := az_wp_iff.trans (az_go_if2 az_d_eq)
theorem az_s72_8 : az_p72 C Q (8, lv, st, h) ↔ az_ma (lv 0) (fun x => az_p72 C Q (9, lv, x :: st, h)) := az_wp_iff.trans az_go_lda
theorem az_s72_9 {a : Nat} : az_p72 C Q (9, lv, .ref a :: st, h) ↔ az_mf (h.1 a) 7 0 (fun v => az_p72 C Q (12, lv, v :: st, h)) := az_wp_iff.trans az_go_gf
theorem az_s72_12 : az_p72 C Q (12, lv, st, h) ↔ az_mi (lv 1) (fun x => az_p72 C Q (13, lv, .int x :: st, h)) := az_wp_iff.trans az_go_ldi
theorem az_s72_13 {a : Nat} {v1 : Value} : az_p72 C Q (13, lv, v1 :: .ref a :: st, h) ↔ az_isob (h.1 a) 2 = true ∧ az_cat st ≤ 8 ∧ az_mc C 14 [.ref a, v1] h (fun v h' => az_p72 C Q (16, lv, v ++ st, h')) := az_wp_iff.trans (az_go_if.trans (and_congr Iff.rfl az_go_call))
theorem az_s72_16 {x : Nat} : az_p72 C Q (16, lv, .ref x :: st, h) ↔ az_p72 C Q (17, (az_s1 lv 2 (.ref x)), st, h) := az_wp_iff
theorem az_s72_16n : az_p72 C Q (16, lv, .null :: st, h) ↔ az_p72 C Q (17, (az_s1 lv 2 .null), st, h) := az_wp_iff
theorem az_s72_17 : az_p72 C Q (17, lv, st, h) ↔ az_ma (lv 2) (fun x => az_p72 C Q (18, lv, x :: st, h)) := az_wp_iff.trans az_go_lda
theorem az_s72_18n : az_p72 C Q (18, lv, .null :: st, h) ↔ az_p72 C Q (21, lv, st, h) := az_wp_iff
theorem az_s72_18 {x : Nat} : az_p72 C Q (18, lv, .ref x :: st, h) ↔ az_p72 C Q (24, lv, st, h) := az_wp_iff
theorem az_s72_21 : az_p72 C Q (21, lv, st, h) ↔ az_p72 C Q (43, lv, st, h) := az_wp_iff
theorem az_s72_24 : az_p72 C Q (24, lv, st, h) ↔ az_ma (lv 2) (fun x => az_p72 C Q (25, lv, x :: st, h)) := az_wp_iff.trans az_go_lda
theorem az_s72_25 {a : Nat} : az_p72 C Q (25, lv, .ref a :: st, h) ↔ az_mf (h.1 a) 8 11 (fun v => az_p72 C Q (28, lv, v :: st, h)) := az_wp_iff.trans az_go_gf
theorem az_s72_28 : az_p72 C Q (28, lv, st, h) ↔ az_p72 C Q (29, lv, .int (Int32.ofInt (1)) :: st, h) := az_wp_iff
theorem az_s72_29 {x y : Int32} : az_p72 C Q (29, lv, .int y :: .int x :: st, h) ↔ (¬ x = y → az_p72 C Q (37, lv, st, h)) ∧ (¬ ¬ x = y → az_p72 C Q (32, lv, st, h)) := az_wp_iff.trans (az_go_if2 az_d_eq)
theorem az_s72_32 : az_p72 C Q (32, lv, st, h) ↔ az_ma (lv 0) (fun x => az_p72 C Q (33, lv, x :: st, h)) := az_wp_iff.trans az_go_lda
theorem az_s72_33 : az_p72 C Q (33, lv, st, h) ↔ az_ma (lv 2) (fun x => az_p72 C Q (34, lv, x :: st, h)) := az_wp_iff.trans az_go_lda
theorem az_s72_34 {a : Nat} {v1 : Value} : az_p72 C Q (34, lv, v1 :: .ref a :: st, h) ↔ az_isob (h.1 a) 7 = true ∧ az_cat st ≤ 8 ∧ az_mc C 73 [.ref a, v1] h (fun v h' => az_p72 C Q (37, lv, v ++ st, h')) := az_wp_iff.trans (az_go_if.trans (and_congr Iff.rfl az_go_call))
theorem az_s72_37 : az_p72 C Q (37, lv, st, h) ↔ az_ma (lv 2) (fun x => az_p72 C Q (38, lv, x :: st, h)) := az_wp_iff.trans az_go_lda
theorem az_s72_38 : az_p72 C Q (38, lv, st, h) ↔ az_p72 C Q (39, lv, .int (Int32.ofInt (4)) :: st, h) := az_wp_iff
theorem az_s72_39 : az_p72 C Q (39, lv, st, h) ↔ az_p72 C Q (40, lv, .int (Int32.ofInt (0)) :: st, h) := az_wp_iff
theorem az_s72_40 {a : Nat} {v1 v2 : Value} : az_p72 C Q (40, lv, v2 :: v1 :: .ref a :: st, h) ↔ az_isob (h.1 a) 8 = true ∧ az_cat st ≤ 8 ∧ az_mc C 96 [.ref a, v1, v2] h (fun v h' => az_p72 C Q (43, lv, v ++ st, h')) := az_wp_iff.trans (az_go_if.trans (and_congr Iff.rfl az_go_call))
theorem az_s72_43 : az_p72 C Q (43, lv, st, h) ↔ az_mi (lv 1) (fun x => az_p72 C Q (46, (az_s1 lv 1 (.int (x + Int32.ofInt (1)))), st, h)) := az_wp_iff.trans az_go_inc
theorem az_s72_46 : az_p72 C Q (46, lv, st, h) ↔ az_p72 C Q (2, lv, st, h) := az_wp_iff
theorem az_s72_49 : az_p72 C Q (49, lv, [], h) ↔ Q none h := az_wp_iff
def az_p73 (C : az_Cl) (Q : Option Value → az_H → Prop) : az_S → Prop := az_wp C (fun _ => none) none (az_fn az_k73) Q
theorem az_s73_0 : az_p73 C Q (0, lv, st, h) ↔ az_ma (lv 0) (fun x => az_p73 C Q (1, lv, x :: st, h)) := az_wp_iff.trans az_go_lda
theorem az_s73_1 {a : Nat} : az_p73 C Q (1, lv, .ref a :: st, h) ↔ az_mf (h.1 a) 7 0 (fun v => az_p73 C Q (4, lv, v :: st, h)) := az_wp_iff.trans az_go_gf
theorem az_s73_4 : az_p73 C Q (4, lv, st, h) ↔ az_ma (lv 1) (fun x => az_p73 C Q (5, lv, x :: st, h)) := az_wp_iff.trans az_go_lda
theorem az_s73_5 : az_p73 C Q (5, lv, st, h) ↔ az_p73 C Q (6, lv, .int (Int32.ofInt (0)) :: st, h) := az_wp_iff
theorem az_s73_6 {a : Nat} {v1 : Value} : az_p73 C Q (6, lv, v1 :: .ref a :: st, h) ↔ az_isob (h.1 a) 8 = true ∧ az_cat st ≤ 8 ∧ az_mc C 85 [.ref a, v1] h (fun v h' => az_p73 C Q (9, lv, v ++ st, h')) := az_wp_iff.trans (az_go_if.trans (and_congr Iff.rfl az_go_call))
theorem az_s73_9 {a : Nat} {v1 : Value} : az_p73 C Q (9, lv, v1 :: .ref a :: st, h) ↔ az_isob (h.1 a) 2 = true ∧ az_cat st ≤ 8 ∧ az_mc C 13 [.ref a, v1] h (fun v h' => az_p73 C Q (12, lv, v ++ st, h')) := az_wp_iff.trans (az_go_if.trans (and_congr Iff.rfl az_go_call))
theorem az_s73_12 : az_p73 C Q (12, lv, st, h) ↔ az_ma (lv 1) (fun x => az_p73 C Q (13, lv, x :: st, h)) := az_wp_iff.trans az_go_lda
theorem az_s73_13 {a : Nat} : az_p73 C Q (13, lv, .ref a :: st, h) ↔ az_mf (h.1 a) 8 18 (fun v => az_p73 C Q (16, lv, v :: st, h)) := az_wp_iff.trans az_go_gf
theorem az_s73_16 {a : Nat} : az_p73 C Q (16, lv, .ref a :: st, h) ↔ az_mf (h.1 a) 4 0 (fun v => az_p73 C Q (19, lv, v :: st, h)) := az_wp_iff.trans az_go_gf
theorem az_s73_19 {v1 v2 : Value} : az_p73 C Q (19, lv, v2 :: v1 :: st, h) ↔ az_cat st ≤ 8 ∧ az_mc C 74 [v1, v2] h (fun v h' => az_p73 C Q (22, lv, v ++ st, h')) := az_wp_iff.trans az_go_call
theorem az_s73_22 : az_p73 C Q (22, lv, st, h) ↔ az_ma (lv 0) (fun x => az_p73 C Q (23, lv, x :: st, h)) := az_wp_iff.trans az_go_lda
theorem az_s73_23 {a : Nat} : az_p73 C Q (23, lv, .ref a :: st, h) ↔ az_mf (h.1 a) 7 0 (fun v => az_p73 C Q (26, lv, v :: st, h)) := az_wp_iff.trans az_go_gf
theorem az_s73_26 : az_p73 C Q (26, lv, st, h) ↔ az_ma (lv 1) (fun x => az_p73 C Q (27, lv, x :: st, h)) := az_wp_iff.trans az_go_lda
theorem az_s73_27 : az_p73 C Q (27, lv, st, h) ↔ az_p73 C Q (28, lv, .int (Int32.ofInt (1)) :: st, h) := az_wp_iff
theorem az_s73_28 {a : Nat} {v1 : Value} : az_p73 C Q (28, lv, v1 :: .ref a :: st, h) ↔ az_isob (h.1 a) 8 = true ∧ az_cat st ≤ 8 ∧ az_mc C 85 [.ref a, v1] h (fun v h' => az_p73 C Q (31, lv, v ++ st, h')) := az_wp_iff.trans (az_go_if.trans (and_congr Iff.rfl az_go_call))
theorem az_s73_31 {a : Nat} {v1 : Value} : az_p73 C Q (31, lv, v1 :: .ref a :: st, h) ↔ az_isob (h.1 a) 2 = true ∧ az_cat st ≤ 8 ∧ az_mc C 13 [.ref a, v1] h (fun v h' => az_p73 C Q (34, lv, v ++ st, h')) := az_wp_iff.trans (az_go_if.trans (and_congr Iff.rfl az_go_call))
theorem az_s73_34 : az_p73 C Q (34, lv, st, h) ↔ az_ma (lv 1) (fun x => az_p73 C Q (35, lv, x :: st, h)) := az_wp_iff.trans az_go_lda
theorem az_s73_35 {a : Nat} : az_p73 C Q (35, lv, .ref a :: st, h) ↔ az_mf (h.1 a) 8 18 (fun v => az_p73 C Q (38, lv, v :: st, h)) := az_wp_iff.trans az_go_gf
theorem az_s73_38 {a : Nat} : az_p73 C Q (38, lv, .ref a :: st, h) ↔ az_mf (h.1 a) 4 1 (fun v => az_p73 C Q (41, lv, v :: st, h)) := az_wp_iff.trans az_go_gf
theorem az_s73_41 {v1 v2 : Value} : az_p73 C Q (41, lv, v2 :: v1 :: st, h) ↔ az_cat st ≤ 8 ∧ az_mc C 74 [v1, v2] h (fun v h' => az_p73 C Q (44, lv, v ++ st, h')) := az_wp_iff.trans az_go_call
theorem az_s73_44 : az_p73 C Q (44, lv, st, h) ↔ az_ma (lv 1) (fun x => az_p73 C Q (45, lv, x :: st, h)) := az_wp_iff.trans az_go_lda
theorem az_s73_45 {a : Nat} : az_p73 C Q (45, lv, .ref a :: st, h) ↔ az_mf (h.1 a) 8 18 (fun v => az_p73 C Q (48, lv, v :: st, h)) := az_wp_iff.trans az_go_gf
theorem az_s73_48 {a : Nat}  : az_p73 C Q (48, lv, .ref a :: st, h) ↔ az_isob (h.1 a) 4 = true ∧ az_cat st ≤ 8 ∧ az_mc C 31 [.ref a] h (fun v h' => az_p73 C Q (51, lv, v ++ st, h')) := az_wp_iff.trans (az_go_if.trans (and_congr Iff.rfl az_go_call))
theorem az_s73_51 : az_p73 C Q (51, lv, [], h) ↔ Q none h := az_wp_iff
def az_p74 (C : az_Cl) (Q : Option Value → az_H → Prop) : az_S → Prop := az_wp C (fun _ => none) none (az_fn az_k74) Q
theorem az_s74_0 : az_p74 C Q (0, lv, st, h) ↔ az_ma (lv 0) (fun x => az_p74 C Q (1, lv, x :: st, h)) := az_wp_iff.trans az_go_lda
theorem az_s74_1n : az_p74 C Q (1, lv, .null :: st, h) ↔ az_p74 C Q (14, lv, st, h) := az_wp_iff
theorem az_s74_1 {x : Nat} : az_p74 C Q (1, lv, .ref x :: st, h) ↔ az_p74 C Q (4, lv, st, h) := az_wp_iff
theorem az_s74_4 : az_p74 C Q (4, lv, st, h) ↔ az_mi (lv 1) (fun x => az_p74 C Q (5, lv, .int x :: st, h)) := az_wp_iff.trans az_go_ldi
theorem az_s74_5 : az_p74 C Q (5, lv, st, h) ↔ az_p74 C Q (6, lv, .int (Int32.ofInt (-1)) :: st, h) := az_wp_iff
theorem az_s74_6 {x y : Int32} : az_p74 C Q (6, lv, .int y :: .int x :: st, h) ↔ (x = y → az_p74 C Q (14, lv, st, h)) ∧ (¬ x = y → az_p74 C Q (9, lv, st, h)) := az_wp_iff.trans (az_go_if2 az_d_eq)
theorem az_s74_9 : az_p74 C Q (9, lv, st, h) ↔ az_ma (lv 0) (fun x => az_p74 C Q (10, lv, x :: st, h)) := az_wp_iff.trans az_go_lda
theorem az_s74_10 : az_p74 C Q (10, lv, st, h) ↔ az_mi (lv 1) (fun x => az_p74 C Q (11, lv, .int x :: st, h)) := az_wp_iff.trans az_go_ldi
theorem az_s74_11 {a : Nat} {v1 : Value} : az_p74 C Q (11, lv, v1 :: .ref a :: st, h) ↔ az_isob (h.1 a) 0 = true ∧ az_cat st ≤ 8 ∧ az_mc C 4 [.ref a, v1] h (fun v h' => az_p74 C Q (14, lv, v ++ st, h')) := az_wp_iff.trans (az_go_if.trans (and_congr Iff.rfl az_go_call))
theorem az_s74_14 : az_p74 C Q (14, lv, [], h) ↔ Q none h := az_wp_iff
def az_p75 (C : az_Cl) (Q : Option Value → az_H → Prop) : az_S → Prop := az_wp C (fun _ => none) none (az_fn az_k75) Q
theorem az_s75_0 : az_p75 C Q (0, lv, st, h) ↔ az_p75 C Q (1, lv, .int (Int32.ofInt (0)) :: st, h) := az_wp_iff
theorem az_s75_1 {x : Int32} : az_p75 C Q (1, lv, .int x :: st, h) ↔ az_p75 C Q (2, (az_s1 lv 1 (.int x)), st, h) := az_wp_iff
theorem az_s75_2 : az_p75 C Q (2, lv, st, h) ↔ az_mi (lv 1) (fun x => az_p75 C Q (3, lv, .int x :: st, h)) := az_wp_iff.trans az_go_ldi
theorem az_s75_3 : az_p75 C Q (3, lv, st, h) ↔ az_p75 C Q (5, lv, .int (Int32.ofInt (12)) :: st, h) := az_wp_iff
theorem az_s75_5 {x y : Int32} : az_p75 C Q (5, lv, .int y :: .int x :: st, h) ↔ (y ≤ x → az_p75 C Q (55, lv, st, h)) ∧ (¬ y ≤ x → az_p75 C Q (8, lv, st, h)) := az_wp_iff.trans (az_go_if2 az_d_eq)
theorem az_s75_8 : az_p75 C Q (8, lv, st, h) ↔ az_ma (lv 0) (fun x => az_p75 C Q (9, lv, x :: st, h)) := az_wp_iff.trans az_go_lda
theorem az_s75_9 {a : Nat} : az_p75 C Q (9, lv, .ref a :: st, h) ↔ az_mf (h.1 a) 7 0 (fun v => az_p75 C Q (12, lv, v :: st, h)) := az_wp_iff.trans az_go_gf
theorem az_s75_12 : az_p75 C Q (12, lv, st, h) ↔ az_mi (lv 1) (fun x => az_p75 C Q (13, lv, .int x :: st, h)) := az_wp_iff.trans az_go_ldi
theorem az_s75_13 {a : Nat} {v1 : Value} : az_p75 C Q (13, lv, v1 :: .ref a :: st, h) ↔ az_isob (h.1 a) 2 = true ∧ az_cat st ≤ 8 ∧ az_mc C 14 [.ref a, v1] h (fun v h' => az_p75 C Q (16, lv, v ++ st, h')) := az_wp_iff.trans (az_go_if.trans (and_congr Iff.rfl az_go_call))
theorem az_s75_16 {x : Nat} : az_p75 C Q (16, lv, .ref x :: st, h) ↔ az_p75 C Q (17, (az_s1 lv 2 (.ref x)), st, h) := az_wp_iff
theorem az_s75_16n : az_p75 C Q (16, lv, .null :: st, h) ↔ az_p75 C Q (17, (az_s1 lv 2 .null), st, h) := az_wp_iff
theorem az_s75_17 : az_p75 C Q (17, lv, st, h) ↔ az_ma (lv 2) (fun x => az_p75 C Q (18, lv, x :: st, h)) := az_wp_iff.trans az_go_lda
theorem az_s75_18n : az_p75 C Q (18, lv, .null :: st, h) ↔ az_p75 C Q (49, lv, st, h) := az_wp_iff
theorem az_s75_18 {x : Nat} : az_p75 C Q (18, lv, .ref x :: st, h) ↔ az_p75 C Q (21, lv, st, h) := az_wp_iff
theorem az_s75_21 : az_p75 C Q (21, lv, st, h) ↔ az_ma (lv 2) (fun x => az_p75 C Q (22, lv, x :: st, h)) := az_wp_iff.trans az_go_lda
theorem az_s75_22 {a : Nat} : az_p75 C Q (22, lv, .ref a :: st, h) ↔ az_mf (h.1 a) 8 11 (fun v => az_p75 C Q (25, lv, v :: st, h)) := az_wp_iff.trans az_go_gf
theorem az_s75_25 : az_p75 C Q (25, lv, st, h) ↔ az_p75 C Q (26, lv, .int (Int32.ofInt (4)) :: st, h) := az_wp_iff
theorem az_s75_26 {x y : Int32} : az_p75 C Q (26, lv, .int y :: .int x :: st, h) ↔ (¬ x = y → az_p75 C Q (49, lv, st, h)) ∧ (¬ ¬ x = y → az_p75 C Q (29, lv, st, h)) := az_wp_iff.trans (az_go_if2 az_d_eq)
theorem az_s75_29 : az_p75 C Q (29, lv, st, h) ↔ az_ma (lv 2) (fun x => az_p75 C Q (30, lv, x :: st, h)) := az_wp_iff.trans az_go_lda
theorem az_s75_30 : az_p75 C Q (30, lv, st, h) ↔ az_ma (lv 2) (fun x => az_p75 C Q (31, lv, x :: st, h)) := az_wp_iff.trans az_go_lda
theorem az_s75_31 {a : Nat} : az_p75 C Q (31, lv, .ref a :: st, h) ↔ az_mf (h.1 a) 8 18 (fun v => az_p75 C Q (34, lv, v :: st, h)) := az_wp_iff.trans az_go_gf
theorem az_s75_34 {a : Nat}  : az_p75 C Q (34, lv, .ref a :: st, h) ↔ az_isob (h.1 a) 4 = true ∧ az_cat st ≤ 8 ∧ az_mc C 29 [.ref a] h (fun v h' => az_p75 C Q (37, lv, v ++ st, h')) := az_wp_iff.trans (az_go_if.trans (and_congr Iff.rfl az_go_call))
theorem az_s75_37 {x : Int32} : az_p75 C Q (37, lv, .int x :: st, h) ↔ (x = 0 → az_p75 C Q (44, lv, st, h)) ∧ (¬ x = 0 → az_p75 C Q (40, lv, st, h)) := az_wp_iff.trans (az_go_if1 az_d_eq)
theorem az_s75_40 : az_p75 C Q (40, lv, st, h) ↔ az_p75 C Q (41, lv, .int (Int32.ofInt (0)) :: st, h) := az_wp_iff
theorem az_s75_41 : az_p75 C Q (41, lv, st, h) ↔ az_p75 C Q (45, lv, st, h) := az_wp_iff
theorem az_s75_44 : az_p75 C Q (44, lv, st, h) ↔ az_p75 C Q (45, lv, .int (Int32.ofInt (2)) :: st, h) := az_wp_iff
theorem az_s75_45 : az_p75 C Q (45, lv, st, h) ↔ az_p75 C Q (46, lv, .int (Int32.ofInt (0)) :: st, h) := az_wp_iff
theorem az_s75_46 {a : Nat} {v1 v2 : Value} : az_p75 C Q (46, lv, v2 :: v1 :: .ref a :: st, h) ↔ az_isob (h.1 a) 8 = true ∧ az_cat st ≤ 8 ∧ az_mc C 96 [.ref a, v1, v2] h (fun v h' => az_p75 C Q (49, lv, v ++ st, h')) := az_wp_iff.trans (az_go_if.trans (and_congr Iff.rfl az_go_call))
theorem az_s75_49 : az_p75 C Q (49, lv, st, h) ↔ az_mi (lv 1) (fun x => az_p75 C Q (52, (az_s1 lv 1 (.int (x + Int32.ofInt (1)))), st, h)) := az_wp_iff.trans az_go_inc
theorem az_s75_52 : az_p75 C Q (52, lv, st, h) ↔ az_p75 C Q (2, lv, st, h) := az_wp_iff
theorem az_s75_55 : az_p75 C Q (55, lv, [], h) ↔ Q none h := az_wp_iff
def az_p76 (C : az_Cl) (Q : Option Value → az_H → Prop) : az_S → Prop := az_wp C (fun _ => none) (some .boolean) (az_fn az_k76) Q
theorem az_s76_0 : az_p76 C Q (0, lv, st, h) ↔ az_p76 C Q (1, lv, .int (Int32.ofInt (0)) :: st, h) := az_wp_iff
theorem az_s76_1 {x : Int32} : az_p76 C Q (1, lv, .int x :: st, h) ↔ az_p76 C Q (2, (az_s1 lv 1 (.int x)), st, h) := az_wp_iff
theorem az_s76_2 : az_p76 C Q (2, lv, st, h) ↔ az_mi (lv 1) (fun x => az_p76 C Q (3, lv, .int x :: st, h)) := az_wp_iff.trans az_go_ldi
theorem az_s76_3 : az_p76 C Q (3, lv, st, h) ↔ az_p76 C Q (5, lv, .int (Int32.ofInt (12)) :: st, h) := az_wp_iff
theorem az_s76_5 {x y : Int32} : az_p76 C Q (5, lv, .int y :: .int x :: st, h) ↔ (y ≤ x → az_p76 C Q (37, lv, st, h)) ∧ (¬ y ≤ x → az_p76 C Q (8, lv, st, h)) := az_wp_iff.trans (az_go_if2 az_d_eq)
theorem az_s76_8 : az_p76 C Q (8, lv, st, h) ↔ az_ma (lv 0) (fun x => az_p76 C Q (9, lv, x :: st, h)) := az_wp_iff.trans az_go_lda
theorem az_s76_9 {a : Nat} : az_p76 C Q (9, lv, .ref a :: st, h) ↔ az_mf (h.1 a) 7 0 (fun v => az_p76 C Q (12, lv, v :: st, h)) := az_wp_iff.trans az_go_gf
theorem az_s76_12 : az_p76 C Q (12, lv, st, h) ↔ az_mi (lv 1) (fun x => az_p76 C Q (13, lv, .int x :: st, h)) := az_wp_iff.trans az_go_ldi
theorem az_s76_13 {a : Nat} {v1 : Value} : az_p76 C Q (13, lv, v1 :: .ref a :: st, h) ↔ az_isob (h.1 a) 2 = true ∧ az_cat st ≤ 8 ∧ az_mc C 14 [.ref a, v1] h (fun v h' => az_p76 C Q (16, lv, v ++ st, h')) := az_wp_iff.trans (az_go_if.trans (and_congr Iff.rfl az_go_call))
theorem az_s76_16 {x : Nat} : az_p76 C Q (16, lv, .ref x :: st, h) ↔ az_p76 C Q (17, (az_s1 lv 2 (.ref x)), st, h) := az_wp_iff
theorem az_s76_16n : az_p76 C Q (16, lv, .null :: st, h) ↔ az_p76 C Q (17, (az_s1 lv 2 .null), st, h) := az_wp_iff
theorem az_s76_17 : az_p76 C Q (17, lv, st, h) ↔ az_ma (lv 2) (fun x => az_p76 C Q (18, lv, x :: st, h)) := az_wp_iff.trans az_go_lda
theorem az_s76_18n : az_p76 C Q (18, lv, .null :: st, h) ↔ az_p76 C Q (31, lv, st, h) := az_wp_iff
theorem az_s76_18 {x : Nat} : az_p76 C Q (18, lv, .ref x :: st, h) ↔ az_p76 C Q (21, lv, st, h) := az_wp_iff
theorem az_s76_21 : az_p76 C Q (21, lv, st, h) ↔ az_ma (lv 0) (fun x => az_p76 C Q (22, lv, x :: st, h)) := az_wp_iff.trans az_go_lda
theorem az_s76_22 : az_p76 C Q (22, lv, st, h) ↔ az_ma (lv 2) (fun x => az_p76 C Q (23, lv, x :: st, h)) := az_wp_iff.trans az_go_lda
theorem az_s76_23 {a : Nat} {v1 : Value} : az_p76 C Q (23, lv, v1 :: .ref a :: st, h) ↔ az_isob (h.1 a) 7 = true ∧ az_cat st ≤ 8 ∧ az_mc C 77 [.ref a, v1] h (fun v h' => az_p76 C Q (26, lv, v ++ st, h')) := az_wp_iff.trans (az_go_if.trans (and_congr Iff.rfl az_go_call))
theorem az_s76_26 {x : Int32} : az_p76 C Q (26, lv, .int x :: st, h) ↔ (x = 0 → az_p76 C Q (31, lv, st, h)) ∧ (¬ x = 0 → az_p76 C Q (29, lv, st, h)) := az_wp_iff.trans (az_go_if1 az_d_eq)
theorem az_s76_29 : az_p76 C Q (29, lv, st, h) ↔ az_p76 C Q (30, lv, .int (Int32.ofInt (0)) :: st, h) := az_wp_iff
theorem az_s76_30 {x : Int32} : az_p76 C Q (30, lv, [.int x], h) ↔ (x = 0 ∨ x = 1) ∧ Q (some (.int x)) h := az_wp_iff.trans az_go_if
theorem az_s76_31 : az_p76 C Q (31, lv, st, h) ↔ az_mi (lv 1) (fun x => az_p76 C Q (34, (az_s1 lv 1 (.int (x + Int32.ofInt (1)))), st, h)) := az_wp_iff.trans az_go_inc
theorem az_s76_34 : az_p76 C Q (34, lv, st, h) ↔ az_p76 C Q (2, lv, st, h) := az_wp_iff
theorem az_s76_37 : az_p76 C Q (37, lv, st, h) ↔ az_p76 C Q (38, lv, .int (Int32.ofInt (1)) :: st, h) := az_wp_iff
theorem az_s76_38 {x : Int32} : az_p76 C Q (38, lv, [.int x], h) ↔ (x = 0 ∨ x = 1) ∧ Q (some (.int x)) h := az_wp_iff.trans az_go_if
def az_p77 (C : az_Cl) (Q : Option Value → az_H → Prop) : az_S → Prop := az_wp C (fun _ => none) (some .boolean) (az_fn az_k77) Q
theorem az_s77_0 : az_p77 C Q (0, lv, st, h) ↔ az_ma (lv 1) (fun x => az_p77 C Q (1, lv, x :: st, h)) := az_wp_iff.trans az_go_lda
theorem az_s77_1 {a : Nat} : az_p77 C Q (1, lv, .ref a :: st, h) ↔ az_mf (h.1 a) 8 11 (fun v => az_p77 C Q (4, lv, v :: st, h)) := az_wp_iff.trans az_go_gf
theorem az_s77_4 {x : Int32} : az_p77 C Q (4, lv, .int x :: st, h) ↔ (x.toInt = 0 → az_p77 C Q (38, lv, st, h)) ∧ (¬ x.toInt = 0 → (x.toInt = 1 → az_p77 C Q (36, lv, st, h)) ∧ (¬ x.toInt = 1 → (x.toInt = 2 → az_p77 C Q (44, lv, st, h)) ∧ (¬ x.toInt = 2 → (x.toInt = 3 → az_p77 C Q (36, lv, st, h)) ∧ (¬ x.toInt = 3 → az_p77 C Q (50, lv, st, h))))) := az_wp_iff.trans (az_sel_iff (K := fun t => az_p77 C Q (t, lv, st, h)) _ _ _)
theorem az_s77_36 : az_p77 C Q (36, lv, st, h) ↔ az_p77 C Q (37, lv, .int (Int32.ofInt (1)) :: st, h) := az_wp_iff
theorem az_s77_37 {x : Int32} : az_p77 C Q (37, lv, [.int x], h) ↔ (x = 0 ∨ x = 1) ∧ Q (some (.int x)) h := az_wp_iff.trans az_go_if
theorem az_s77_38 : az_p77 C Q (38, lv, st, h) ↔ az_ma (lv 0) (fun x => az_p77 C Q (39, lv, x :: st, h)) := az_wp_iff.trans az_go_lda
theorem az_s77_39 : az_p77 C Q (39, lv, st, h) ↔ az_ma (lv 1) (fun x => az_p77 C Q (40, lv, x :: st, h)) := az_wp_iff.trans az_go_lda
theorem az_s77_40 {a : Nat} {v1 : Value} : az_p77 C Q (40, lv, v1 :: .ref a :: st, h) ↔ az_isob (h.1 a) 7 = true ∧ az_cat st ≤ 8 ∧ az_mc C 70 [.ref a, v1] h (fun v h' => az_p77 C Q (43, lv, v ++ st, h')) := az_wp_iff.trans (az_go_if.trans (and_congr Iff.rfl az_go_call))
theorem az_s77_43 {x : Int32} : az_p77 C Q (43, lv, [.int x], h) ↔ (x = 0 ∨ x = 1) ∧ Q (some (.int x)) h := az_wp_iff.trans az_go_if
theorem az_s77_44 : az_p77 C Q (44, lv, st, h) ↔ az_ma (lv 0) (fun x => az_p77 C Q (45, lv, x :: st, h)) := az_wp_iff.trans az_go_lda
theorem az_s77_45 : az_p77 C Q (45, lv, st, h) ↔ az_ma (lv 1) (fun x => az_p77 C Q (46, lv, x :: st, h)) := az_wp_iff.trans az_go_lda
theorem az_s77_46 {a : Nat} {v1 : Value} : az_p77 C Q (46, lv, v1 :: .ref a :: st, h) ↔ az_isob (h.1 a) 7 = true ∧ az_cat st ≤ 8 ∧ az_mc C 67 [.ref a, v1] h (fun v h' => az_p77 C Q (49, lv, v ++ st, h')) := az_wp_iff.trans (az_go_if.trans (and_congr Iff.rfl az_go_call))
theorem az_s77_49 {x : Int32} : az_p77 C Q (49, lv, [.int x], h) ↔ (x = 0 ∨ x = 1) ∧ Q (some (.int x)) h := az_wp_iff.trans az_go_if
theorem az_s77_50 : az_p77 C Q (50, lv, st, h) ↔ az_p77 C Q (51, lv, .int (Int32.ofInt (0)) :: st, h) := az_wp_iff
theorem az_s77_51 {x : Int32} : az_p77 C Q (51, lv, [.int x], h) ↔ (x = 0 ∨ x = 1) ∧ Q (some (.int x)) h := az_wp_iff.trans az_go_if
def az_p78 (C : az_Cl) (Q : Option Value → az_H → Prop) : az_S → Prop := az_wp C (fun _ => none) none (az_fn az_k78) Q
theorem az_s78_0 : az_p78 C Q (0, lv, st, h) ↔ az_ma (lv 0) (fun x => az_p78 C Q (1, lv, x :: st, h)) := az_wp_iff.trans az_go_lda
theorem az_s78_1 {a : Nat} : az_p78 C Q (1, lv, .ref a :: st, h) ↔ az_cat st ≤ 8 ∧ az_p78 C Q (4, lv, st, h) := az_wp_iff.trans az_go_if
theorem az_s78_4 : az_p78 C Q (4, lv, st, h) ↔ az_ma (lv 0) (fun x => az_p78 C Q (5, lv, x :: st, h)) := az_wp_iff.trans az_go_lda
theorem az_s78_5 : az_p78 C Q (5, lv, st, h) ↔ az_p78 C Q (6, lv, .int (Int32.ofInt (2)) :: st, h) := az_wp_iff
theorem az_s78_6 {n : Int32} : az_p78 C Q (6, lv, .int n :: st, h) ↔ (0 ≤ n.toInt ∧ n.toInt ≤ 65536) ∧ az_p78 C Q (8, lv, .ref h.2.1 :: st, az_nw h (az_ia 0 n.toInt.toNat (fun _ => 0)) n.toInt.toNat) := az_wp_iff.trans az_go_if
theorem az_s78_8 {a : Nat} {v : Value} : az_p78 C Q (8, lv, v :: .ref a :: st, h) ↔ az_mp (h.1 a) 8 4 3 v (fun c => az_p78 C Q (11, lv, st, az_uh h a c)) := az_wp_iff.trans az_go_pf
theorem az_s78_11 : az_p78 C Q (11, lv, st, h) ↔ az_ma (lv 0) (fun x => az_p78 C Q (12, lv, x :: st, h)) := az_wp_iff.trans az_go_lda
theorem az_s78_12 : az_p78 C Q (12, lv, st, h) ↔ az_p78 C Q (13, lv, .int (Int32.ofInt (3)) :: st, h) := az_wp_iff
theorem az_s78_13 {n : Int32} : az_p78 C Q (13, lv, .int n :: st, h) ↔ (0 ≤ n.toInt ∧ n.toInt ≤ 65536) ∧ az_p78 C Q (15, lv, .ref h.2.1 :: st, az_nw h (az_ia 0 n.toInt.toNat (fun _ => 0)) n.toInt.toNat) := az_wp_iff.trans az_go_if
theorem az_s78_15 {a : Nat} {v : Value} : az_p78 C Q (15, lv, v :: .ref a :: st, h) ↔ az_mp (h.1 a) 8 6 3 v (fun c => az_p78 C Q (18, lv, st, az_uh h a c)) := az_wp_iff.trans az_go_pf
theorem az_s78_18 : az_p78 C Q (18, lv, st, h) ↔ az_ma (lv 0) (fun x => az_p78 C Q (19, lv, x :: st, h)) := az_wp_iff.trans az_go_lda
theorem az_s78_19 : az_p78 C Q (19, lv, st, h) ↔ az_p78 C Q (20, lv, .int (Int32.ofInt (3)) :: st, h) := az_wp_iff
theorem az_s78_20 {n : Int32} : az_p78 C Q (20, lv, .int n :: st, h) ↔ (0 ≤ n.toInt ∧ n.toInt ≤ 65536) ∧ az_p78 C Q (22, lv, .ref h.2.1 :: st, az_nw h (az_ia 0 n.toInt.toNat (fun _ => 0)) n.toInt.toNat) := az_wp_iff.trans az_go_if
theorem az_s78_22 {a : Nat} {v : Value} : az_p78 C Q (22, lv, v :: .ref a :: st, h) ↔ az_mp (h.1 a) 8 7 3 v (fun c => az_p78 C Q (25, lv, st, az_uh h a c)) := az_wp_iff.trans az_go_pf
theorem az_s78_25 : az_p78 C Q (25, lv, st, h) ↔ az_ma (lv 0) (fun x => az_p78 C Q (26, lv, x :: st, h)) := az_wp_iff.trans az_go_lda
theorem az_s78_26 : az_p78 C Q (26, lv, st, h) ↔ az_p78 C Q (27, lv, .int (Int32.ofInt (3)) :: st, h) := az_wp_iff
theorem az_s78_27 {n : Int32} : az_p78 C Q (27, lv, .int n :: st, h) ↔ (0 ≤ n.toInt ∧ n.toInt ≤ 65536) ∧ az_p78 C Q (29, lv, .ref h.2.1 :: st, az_nw h (az_ia 0 n.toInt.toNat (fun _ => 0)) n.toInt.toNat) := az_wp_iff.trans az_go_if
theorem az_s78_29 {a : Nat} {v : Value} : az_p78 C Q (29, lv, v :: .ref a :: st, h) ↔ az_mp (h.1 a) 8 9 3 v (fun c => az_p78 C Q (32, lv, st, az_uh h a c)) := az_wp_iff.trans az_go_pf
theorem az_s78_32 : az_p78 C Q (32, lv, st, h) ↔ az_ma (lv 0) (fun x => az_p78 C Q (33, lv, x :: st, h)) := az_wp_iff.trans az_go_lda
theorem az_s78_33 : az_p78 C Q (33, lv, st, h) ↔ az_p78 C Q (34, lv, .int (Int32.ofInt (5)) :: st, h) := az_wp_iff
theorem az_s78_34 {a : Nat} {v : Value} : az_p78 C Q (34, lv, v :: .ref a :: st, h) ↔ az_mp (h.1 a) 8 10 0 v (fun c => az_p78 C Q (37, lv, st, az_uh h a c)) := az_wp_iff.trans az_go_pf
theorem az_s78_37 : az_p78 C Q (37, lv, st, h) ↔ az_ma (lv 0) (fun x => az_p78 C Q (38, lv, x :: st, h)) := az_wp_iff.trans az_go_lda
theorem az_s78_38 : az_p78 C Q (38, lv, st, h) ↔ az_p78 C Q (39, lv, .int (Int32.ofInt (0)) :: st, h) := az_wp_iff
theorem az_s78_39 {a : Nat} {v : Value} : az_p78 C Q (39, lv, v :: .ref a :: st, h) ↔ az_mp (h.1 a) 8 11 0 v (fun c => az_p78 C Q (42, lv, st, az_uh h a c)) := az_wp_iff.trans az_go_pf
theorem az_s78_42 : az_p78 C Q (42, lv, st, h) ↔ az_ma (lv 0) (fun x => az_p78 C Q (43, lv, x :: st, h)) := az_wp_iff.trans az_go_lda
theorem az_s78_43 : az_p78 C Q (43, lv, st, h) ↔ az_p78 C Q (46, lv, .ref h.2.1 :: st, az_nw h (az_ob 4 (az_z 4)) 4) := az_wp_iff
theorem az_s78_46 {x : Int32} : az_p78 C Q (46, lv, .int x :: st, h) ↔ az_p78 C Q (47, lv, .int x :: .int x :: st, h) := az_wp_iff
theorem az_s78_46r {x : Nat} : az_p78 C Q (46, lv, .ref x :: st, h) ↔ az_p78 C Q (47, lv, .ref x :: .ref x :: st, h) := az_wp_iff
theorem az_s78_47 {a : Nat}  : az_p78 C Q (47, lv, .ref a :: st, h) ↔ az_cat st ≤ 8 ∧ az_mc C 28 [.ref a] h (fun v h' => az_p78 C Q (50, lv, v ++ st, h')) := az_wp_iff.trans az_go_call
theorem az_s78_50 {a : Nat} {v : Value} : az_p78 C Q (50, lv, v :: .ref a :: st, h) ↔ az_mp (h.1 a) 8 18 3 v (fun c => az_p78 C Q (53, lv, st, az_uh h a c)) := az_wp_iff.trans az_go_pf
theorem az_s78_53 : az_p78 C Q (53, lv, st, h) ↔ az_ma (lv 0) (fun x => az_p78 C Q (54, lv, x :: st, h)) := az_wp_iff.trans az_go_lda
theorem az_s78_54 : az_p78 C Q (54, lv, st, h) ↔ az_p78 C Q (56, lv, .int (Int32.ofInt (10)) :: st, h) := az_wp_iff
theorem az_s78_56 {n : Int32} : az_p78 C Q (56, lv, .int n :: st, h) ↔ (0 ≤ n.toInt ∧ n.toInt ≤ 65536) ∧ az_p78 C Q (58, lv, .ref h.2.1 :: st, az_nw h (az_ia 0 n.toInt.toNat (fun _ => 0)) n.toInt.toNat) := az_wp_iff.trans az_go_if
theorem az_s78_58 {a : Nat} {v : Value} : az_p78 C Q (58, lv, v :: .ref a :: st, h) ↔ az_mp (h.1 a) 8 19 3 v (fun c => az_p78 C Q (61, lv, st, az_uh h a c)) := az_wp_iff.trans az_go_pf
theorem az_s78_61 : az_p78 C Q (61, lv, st, h) ↔ az_ma (lv 0) (fun x => az_p78 C Q (62, lv, x :: st, h)) := az_wp_iff.trans az_go_lda
theorem az_s78_62 : az_p78 C Q (62, lv, st, h) ↔ az_mi (lv 1) (fun x => az_p78 C Q (63, lv, .int x :: st, h)) := az_wp_iff.trans az_go_ldi
theorem az_s78_63 {a : Nat} {v : Value} : az_p78 C Q (63, lv, v :: .ref a :: st, h) ↔ az_mp (h.1 a) 8 0 0 v (fun c => az_p78 C Q (66, lv, st, az_uh h a c)) := az_wp_iff.trans az_go_pf
theorem az_s78_66 : az_p78 C Q (66, lv, st, h) ↔ az_ma (lv 0) (fun x => az_p78 C Q (67, lv, x :: st, h)) := az_wp_iff.trans az_go_lda
theorem az_s78_67 : az_p78 C Q (67, lv, st, h) ↔ az_mi (lv 2) (fun x => az_p78 C Q (68, lv, .int x :: st, h)) := az_wp_iff.trans az_go_ldi
theorem az_s78_68 {a : Nat} {v : Value} : az_p78 C Q (68, lv, v :: .ref a :: st, h) ↔ az_mp (h.1 a) 8 1 0 v (fun c => az_p78 C Q (71, lv, st, az_uh h a c)) := az_wp_iff.trans az_go_pf
theorem az_s78_71 : az_p78 C Q (71, lv, st, h) ↔ az_ma (lv 0) (fun x => az_p78 C Q (72, lv, x :: st, h)) := az_wp_iff.trans az_go_lda
theorem az_s78_72 : az_p78 C Q (72, lv, st, h) ↔ az_mi (lv 3) (fun x => az_p78 C Q (73, lv, .int x :: st, h)) := az_wp_iff.trans az_go_ldi
theorem az_s78_73 {a : Nat} {v : Value} : az_p78 C Q (73, lv, v :: .ref a :: st, h) ↔ az_mp (h.1 a) 8 2 0 v (fun c => az_p78 C Q (76, lv, st, az_uh h a c)) := az_wp_iff.trans az_go_pf
theorem az_s78_76 : az_p78 C Q (76, lv, st, h) ↔ az_ma (lv 0) (fun x => az_p78 C Q (77, lv, x :: st, h)) := az_wp_iff.trans az_go_lda
theorem az_s78_77 : az_p78 C Q (77, lv, st, h) ↔ az_mi (lv 4) (fun x => az_p78 C Q (79, lv, .int x :: st, h)) := az_wp_iff.trans az_go_ldi
theorem az_s78_79 {a : Nat} {v : Value} : az_p78 C Q (79, lv, v :: .ref a :: st, h) ↔ az_mp (h.1 a) 8 3 0 v (fun c => az_p78 C Q (82, lv, st, az_uh h a c)) := az_wp_iff.trans az_go_pf
theorem az_s78_82 : az_p78 C Q (82, lv, [], h) ↔ Q none h := az_wp_iff
def az_p79 (C : az_Cl) (Q : Option Value → az_H → Prop) : az_S → Prop := az_wp C (fun _ => none) (some .boolean) (az_fn az_k79) Q
theorem az_s79_0 : az_p79 C Q (0, lv, st, h) ↔ az_mi (lv 0) (fun x => az_p79 C Q (1, lv, .int x :: st, h)) := az_wp_iff.trans az_go_ldi
theorem az_s79_1 {x : Int32} : az_p79 C Q (1, lv, .int x :: st, h) ↔ (x.toInt = 0 → az_p79 C Q (40, lv, st, h)) ∧ (¬ x.toInt = 0 → (x.toInt = 1 → az_p79 C Q (49, lv, st, h)) ∧ (¬ x.toInt = 1 → (x.toInt = 2 → az_p79 C Q (74, lv, st, h)) ∧ (¬ x.toInt = 2 → (x.toInt = 3 → az_p79 C Q (58, lv, st, h)) ∧ (¬ x.toInt = 3 → (x.toInt = 4 → az_p79 C Q (74, lv, st, h)) ∧ (¬ x.toInt = 4 → (x.toInt = 5 → az_p79 C Q (66, lv, st, h)) ∧ (¬ x.toInt = 5 → az_p79 C Q (76, lv, st, h))))))) := az_wp_iff.trans (az_sel_iff (K := fun t => az_p79 C Q (t, lv, st, h)) _ _ _)
theorem az_s79_40 : az_p79 C Q (40, lv, st, h) ↔ az_mi (lv 1) (fun x => az_p79 C Q (41, lv, .int x :: st, h)) := az_wp_iff.trans az_go_ldi
theorem az_s79_41 : az_p79 C Q (41, lv, st, h) ↔ az_p79 C Q (42, lv, .int (Int32.ofInt (0)) :: st, h) := az_wp_iff
theorem az_s79_42 : az_p79 C Q (42, lv, st, h) ↔ az_p79 C Q (45, lv, .int (Int32.ofInt (900)) :: st, h) := az_wp_iff
theorem az_s79_45 {v1 v2 v3 : Value} : az_p79 C Q (45, lv, v3 :: v2 :: v1 :: st, h) ↔ az_cat st ≤ 8 ∧ az_mc C 132 [v1, v2, v3] h (fun v h' => az_p79 C Q (48, lv, v ++ st, h')) := az_wp_iff.trans az_go_call
theorem az_s79_48 {x : Int32} : az_p79 C Q (48, lv, [.int x], h) ↔ (x = 0 ∨ x = 1) ∧ Q (some (.int x)) h := az_wp_iff.trans az_go_if
theorem az_s79_49 : az_p79 C Q (49, lv, st, h) ↔ az_mi (lv 1) (fun x => az_p79 C Q (50, lv, .int x :: st, h)) := az_wp_iff.trans az_go_ldi
theorem az_s79_50 : az_p79 C Q (50, lv, st, h) ↔ az_p79 C Q (51, lv, .int (Int32.ofInt (1)) :: st, h) := az_wp_iff
theorem az_s79_51 : az_p79 C Q (51, lv, st, h) ↔ az_p79 C Q (54, lv, .int (Int32.ofInt (500)) :: st, h) := az_wp_iff
theorem az_s79_54 {v1 v2 v3 : Value} : az_p79 C Q (54, lv, v3 :: v2 :: v1 :: st, h) ↔ az_cat st ≤ 8 ∧ az_mc C 132 [v1, v2, v3] h (fun v h' => az_p79 C Q (57, lv, v ++ st, h')) := az_wp_iff.trans az_go_call
theorem az_s79_57 {x : Int32} : az_p79 C Q (57, lv, [.int x], h) ↔ (x = 0 ∨ x = 1) ∧ Q (some (.int x)) h := az_wp_iff.trans az_go_if
theorem az_s79_58 : az_p79 C Q (58, lv, st, h) ↔ az_mi (lv 1) (fun x => az_p79 C Q (59, lv, .int x :: st, h)) := az_wp_iff.trans az_go_ldi
theorem az_s79_59 : az_p79 C Q (59, lv, st, h) ↔ az_p79 C Q (60, lv, .int (Int32.ofInt (0)) :: st, h) := az_wp_iff
theorem az_s79_60 : az_p79 C Q (60, lv, st, h) ↔ az_p79 C Q (62, lv, .int (Int32.ofInt (9)) :: st, h) := az_wp_iff
theorem az_s79_62 {v1 v2 v3 : Value} : az_p79 C Q (62, lv, v3 :: v2 :: v1 :: st, h) ↔ az_cat st ≤ 8 ∧ az_mc C 132 [v1, v2, v3] h (fun v h' => az_p79 C Q (65, lv, v ++ st, h')) := az_wp_iff.trans az_go_call
theorem az_s79_65 {x : Int32} : az_p79 C Q (65, lv, [.int x], h) ↔ (x = 0 ∨ x = 1) ∧ Q (some (.int x)) h := az_wp_iff.trans az_go_if
theorem az_s79_66 : az_p79 C Q (66, lv, st, h) ↔ az_mi (lv 1) (fun x => az_p79 C Q (67, lv, .int x :: st, h)) := az_wp_iff.trans az_go_ldi
theorem az_s79_67 : az_p79 C Q (67, lv, st, h) ↔ az_p79 C Q (68, lv, .int (Int32.ofInt (1)) :: st, h) := az_wp_iff
theorem az_s79_68 : az_p79 C Q (68, lv, st, h) ↔ az_p79 C Q (70, lv, .int (Int32.ofInt (50000)) :: st, h) := az_wp_iff
theorem az_s79_70 {v1 v2 v3 : Value} : az_p79 C Q (70, lv, v3 :: v2 :: v1 :: st, h) ↔ az_cat st ≤ 8 ∧ az_mc C 132 [v1, v2, v3] h (fun v h' => az_p79 C Q (73, lv, v ++ st, h')) := az_wp_iff.trans az_go_call
theorem az_s79_73 {x : Int32} : az_p79 C Q (73, lv, [.int x], h) ↔ (x = 0 ∨ x = 1) ∧ Q (some (.int x)) h := az_wp_iff.trans az_go_if
theorem az_s79_74 : az_p79 C Q (74, lv, st, h) ↔ az_p79 C Q (75, lv, .int (Int32.ofInt (1)) :: st, h) := az_wp_iff
theorem az_s79_75 {x : Int32} : az_p79 C Q (75, lv, [.int x], h) ↔ (x = 0 ∨ x = 1) ∧ Q (some (.int x)) h := az_wp_iff.trans az_go_if
theorem az_s79_76 : az_p79 C Q (76, lv, st, h) ↔ az_p79 C Q (77, lv, .int (Int32.ofInt (0)) :: st, h) := az_wp_iff
theorem az_s79_77 {x : Int32} : az_p79 C Q (77, lv, [.int x], h) ↔ (x = 0 ∨ x = 1) ∧ Q (some (.int x)) h := az_wp_iff.trans az_go_if
def az_p80 (C : az_Cl) (Q : Option Value → az_H → Prop) : az_S → Prop := az_wp C (fun _ => none) (some .int) (az_fn az_k80) Q
theorem az_s80_0 : az_p80 C Q (0, lv, st, h) ↔ az_ma (lv 0) (fun x => az_p80 C Q (1, lv, x :: st, h)) := az_wp_iff.trans az_go_lda
theorem az_s80_1 {a : Nat} : az_p80 C Q (1, lv, .ref a :: st, h) ↔ az_mf (h.1 a) 8 1 (fun v => az_p80 C Q (4, lv, v :: st, h)) := az_wp_iff.trans az_go_gf
theorem az_s80_4 : az_p80 C Q (4, lv, st, h) ↔ az_p80 C Q (5, lv, .int (Int32.ofInt (4)) :: st, h) := az_wp_iff
theorem az_s80_5 {x y : Int32} : az_p80 C Q (5, lv, .int y :: .int x :: st, h) ↔ (¬ x = y → az_p80 C Q (12, lv, st, h)) ∧ (¬ ¬ x = y → az_p80 C Q (8, lv, st, h)) := az_wp_iff.trans (az_go_if2 az_d_eq)
theorem az_s80_8 : az_p80 C Q (8, lv, st, h) ↔ az_p80 C Q (9, lv, .int (Int32.ofInt (2)) :: st, h) := az_wp_iff
theorem az_s80_9 : az_p80 C Q (9, lv, st, h) ↔ az_p80 C Q (13, lv, st, h) := az_wp_iff
theorem az_s80_12 : az_p80 C Q (12, lv, st, h) ↔ az_p80 C Q (13, lv, .int (Int32.ofInt (1)) :: st, h) := az_wp_iff
theorem az_s80_13 {x : Int32} : az_p80 C Q (13, lv, [.int x], h) ↔ Q (some (.int x)) h := az_wp_iff
def az_p81 (C : az_Cl) (Q : Option Value → az_H → Prop) : az_S → Prop := az_wp C (fun _ => none) (some .int) (az_fn az_k81) Q
theorem az_s81_0 : az_p81 C Q (0, lv, st, h) ↔ az_ma (lv 0) (fun x => az_p81 C Q (1, lv, x :: st, h)) := az_wp_iff.trans az_go_lda
theorem az_s81_1 {a : Nat} : az_p81 C Q (1, lv, .ref a :: st, h) ↔ az_mf (h.1 a) 8 1 (fun v => az_p81 C Q (4, lv, v :: st, h)) := az_wp_iff.trans az_go_gf
theorem az_s81_4 {x : Int32} : az_p81 C Q (4, lv, .int x :: st, h) ↔ (x.toInt = 2 → az_p81 C Q (38, lv, st, h)) ∧ (¬ x.toInt = 2 → (x.toInt = 3 → az_p81 C Q (38, lv, st, h)) ∧ (¬ x.toInt = 3 → (x.toInt = 4 → az_p81 C Q (40, lv, st, h)) ∧ (¬ x.toInt = 4 → (x.toInt = 5 → az_p81 C Q (36, lv, st, h)) ∧ (¬ x.toInt = 5 → az_p81 C Q (40, lv, st, h))))) := az_wp_iff.trans (az_sel_iff (K := fun t => az_p81 C Q (t, lv, st, h)) _ _ _)
theorem az_s81_36 : az_p81 C Q (36, lv, st, h) ↔ az_p81 C Q (37, lv, .int (Int32.ofInt (0)) :: st, h) := az_wp_iff
theorem az_s81_37 {x : Int32} : az_p81 C Q (37, lv, [.int x], h) ↔ Q (some (.int x)) h := az_wp_iff
theorem az_s81_38 : az_p81 C Q (38, lv, st, h) ↔ az_p81 C Q (39, lv, .int (Int32.ofInt (2)) :: st, h) := az_wp_iff
theorem az_s81_39 {x : Int32} : az_p81 C Q (39, lv, [.int x], h) ↔ Q (some (.int x)) h := az_wp_iff
theorem az_s81_40 : az_p81 C Q (40, lv, st, h) ↔ az_p81 C Q (41, lv, .int (Int32.ofInt (1)) :: st, h) := az_wp_iff
theorem az_s81_41 {x : Int32} : az_p81 C Q (41, lv, [.int x], h) ↔ Q (some (.int x)) h := az_wp_iff
def az_p82 (C : az_Cl) (Q : Option Value → az_H → Prop) : az_S → Prop := az_wp C (fun _ => none) (some .int) (az_fn az_k82) Q
theorem az_s82_0 : az_p82 C Q (0, lv, st, h) ↔ az_ma (lv 0) (fun x => az_p82 C Q (1, lv, x :: st, h)) := az_wp_iff.trans az_go_lda
theorem az_s82_1 {a : Nat} : az_p82 C Q (1, lv, .ref a :: st, h) ↔ az_mf (h.1 a) 8 1 (fun v => az_p82 C Q (4, lv, v :: st, h)) := az_wp_iff.trans az_go_gf
theorem az_s82_4 : az_p82 C Q (4, lv, st, h) ↔ az_p82 C Q (5, lv, .int (Int32.ofInt (2)) :: st, h) := az_wp_iff
theorem az_s82_5 {x y : Int32} : az_p82 C Q (5, lv, .int y :: .int x :: st, h) ↔ (¬ x = y → az_p82 C Q (12, lv, st, h)) ∧ (¬ ¬ x = y → az_p82 C Q (8, lv, st, h)) := az_wp_iff.trans (az_go_if2 az_d_eq)
theorem az_s82_8 : az_p82 C Q (8, lv, st, h) ↔ az_p82 C Q (9, lv, .int (Int32.ofInt (3)) :: st, h) := az_wp_iff
theorem az_s82_9 : az_p82 C Q (9, lv, st, h) ↔ az_p82 C Q (16, lv, st, h) := az_wp_iff
theorem az_s82_12 : az_p82 C Q (12, lv, st, h) ↔ az_ma (lv 0) (fun x => az_p82 C Q (13, lv, x :: st, h)) := az_wp_iff.trans az_go_lda
theorem az_s82_13 {a : Nat}  : az_p82 C Q (13, lv, .ref a :: st, h) ↔ az_isob (h.1 a) 8 = true ∧ az_cat st ≤ 8 ∧ az_mc C 81 [.ref a] h (fun v h' => az_p82 C Q (16, lv, v ++ st, h')) := az_wp_iff.trans (az_go_if.trans (and_congr Iff.rfl az_go_call))
theorem az_s82_16 {x : Int32} : az_p82 C Q (16, lv, [.int x], h) ↔ Q (some (.int x)) h := az_wp_iff
def az_p83 (C : az_Cl) (Q : Option Value → az_H → Prop) : az_S → Prop := az_wp C (fun _ => none) (some .int) (az_fn az_k83) Q
theorem az_s83_0 : az_p83 C Q (0, lv, st, h) ↔ az_ma (lv 0) (fun x => az_p83 C Q (1, lv, x :: st, h)) := az_wp_iff.trans az_go_lda
theorem az_s83_1 {a : Nat} : az_p83 C Q (1, lv, .ref a :: st, h) ↔ az_mf (h.1 a) 8 5 (fun v => az_p83 C Q (4, lv, v :: st, h)) := az_wp_iff.trans az_go_gf
theorem az_s83_4 : az_p83 C Q (4, lv, st, h) ↔ az_ma (lv 0) (fun x => az_p83 C Q (5, lv, x :: st, h)) := az_wp_iff.trans az_go_lda
theorem az_s83_5 {a : Nat}  : az_p83 C Q (5, lv, .ref a :: st, h) ↔ az_isob (h.1 a) 8 = true ∧ az_cat st ≤ 8 ∧ az_mc C 80 [.ref a] h (fun v h' => az_p83 C Q (8, lv, v ++ st, h')) := az_wp_iff.trans (az_go_if.trans (and_congr Iff.rfl az_go_call))
theorem az_s83_8 {x y : Int32} : az_p83 C Q (8, lv, .int y :: .int x :: st, h) ↔ (y ≤ x → az_p83 C Q (23, lv, st, h)) ∧ (¬ y ≤ x → az_p83 C Q (11, lv, st, h)) := az_wp_iff.trans (az_go_if2 az_d_eq)
theorem az_s83_11 : az_p83 C Q (11, lv, st, h) ↔ az_ma (lv 0) (fun x => az_p83 C Q (12, lv, x :: st, h)) := az_wp_iff.trans az_go_lda
theorem az_s83_12 {a : Nat} : az_p83 C Q (12, lv, .ref a :: st, h) ↔ az_mf (h.1 a) 8 5 (fun v => az_p83 C Q (15, lv, v :: st, h)) := az_wp_iff.trans az_go_gf
theorem az_s83_15 : az_p83 C Q (15, lv, st, h) ↔ az_ma (lv 0) (fun x => az_p83 C Q (16, lv, x :: st, h)) := az_wp_iff.trans az_go_lda
theorem az_s83_16 {a : Nat} : az_p83 C Q (16, lv, .ref a :: st, h) ↔ az_mf (h.1 a) 8 4 (fun v => az_p83 C Q (19, lv, v :: st, h)) := az_wp_iff.trans az_go_gf
theorem az_s83_19 {a : Nat} : az_p83 C Q (19, lv, .ref a :: st, h) ↔ az_mn (h.1 a) (fun x => az_p83 C Q (20, lv, .int x :: st, h)) := az_wp_iff.trans az_go_aln
theorem az_s83_20 {x y : Int32} : az_p83 C Q (20, lv, .int y :: .int x :: st, h) ↔ (x < y → az_p83 C Q (25, lv, st, h)) ∧ (¬ x < y → az_p83 C Q (23, lv, st, h)) := az_wp_iff.trans (az_go_if2 az_d_eq)
theorem az_s83_23 : az_p83 C Q (23, lv, st, h) ↔ az_p83 C Q (24, lv, .int (Int32.ofInt (-1)) :: st, h) := az_wp_iff
theorem az_s83_24 {x : Int32} : az_p83 C Q (24, lv, [.int x], h) ↔ Q (some (.int x)) h := az_wp_iff
theorem az_s83_25 : az_p83 C Q (25, lv, st, h) ↔ az_ma (lv 0) (fun x => az_p83 C Q (26, lv, x :: st, h)) := az_wp_iff.trans az_go_lda
theorem az_s83_26 {a : Nat} : az_p83 C Q (26, lv, .ref a :: st, h) ↔ az_mf (h.1 a) 8 4 (fun v => az_p83 C Q (29, lv, v :: st, h)) := az_wp_iff.trans az_go_gf
theorem az_s83_29 : az_p83 C Q (29, lv, st, h) ↔ az_ma (lv 0) (fun x => az_p83 C Q (30, lv, x :: st, h)) := az_wp_iff.trans az_go_lda
theorem az_s83_30 {a : Nat} : az_p83 C Q (30, lv, .ref a :: st, h) ↔ az_mf (h.1 a) 8 5 (fun v => az_p83 C Q (33, lv, v :: st, h)) := az_wp_iff.trans az_go_gf
theorem az_s83_33 : az_p83 C Q (33, lv, st, h) ↔ az_mi (lv 1) (fun x => az_p83 C Q (34, lv, .int x :: st, h)) := az_wp_iff.trans az_go_ldi
theorem az_s83_34 {a : Nat} {i x : Int32} : az_p83 C Q (34, lv, .int x :: .int i :: .ref a :: st, h) ↔ az_mw' (h.1 a) i.toInt x (fun c => az_p83 C Q (35, lv, st, az_uh h a c)) := az_wp_iff.trans az_go_ias
theorem az_s83_35 : az_p83 C Q (35, lv, st, h) ↔ az_ma (lv 0) (fun x => az_p83 C Q (36, lv, x :: st, h)) := az_wp_iff.trans az_go_lda
theorem az_s83_36 {x : Int32} : az_p83 C Q (36, lv, .int x :: st, h) ↔ az_p83 C Q (37, lv, .int x :: .int x :: st, h) := az_wp_iff
theorem az_s83_36r {x : Nat} : az_p83 C Q (36, lv, .ref x :: st, h) ↔ az_p83 C Q (37, lv, .ref x :: .ref x :: st, h) := az_wp_iff
theorem az_s83_37 {a : Nat} : az_p83 C Q (37, lv, .ref a :: st, h) ↔ az_mf (h.1 a) 8 5 (fun v => az_p83 C Q (40, lv, v :: st, h)) := az_wp_iff.trans az_go_gf
theorem az_s83_40 : az_p83 C Q (40, lv, st, h) ↔ az_p83 C Q (41, lv, .int (Int32.ofInt (1)) :: st, h) := az_wp_iff
theorem az_s83_41 {x y : Int32} : az_p83 C Q (41, lv, .int y :: .int x :: st, h) ↔ az_p83 C Q (42, lv, .int (x + y) :: st, h) := az_wp_iff
theorem az_s83_42 {a : Nat} {v : Value} : az_p83 C Q (42, lv, v :: .ref a :: st, h) ↔ az_mp (h.1 a) 8 5 0 v (fun c => az_p83 C Q (45, lv, st, az_uh h a c)) := az_wp_iff.trans az_go_pf
theorem az_s83_45 : az_p83 C Q (45, lv, st, h) ↔ az_ma (lv 0) (fun x => az_p83 C Q (46, lv, x :: st, h)) := az_wp_iff.trans az_go_lda
theorem az_s83_46 {a : Nat} : az_p83 C Q (46, lv, .ref a :: st, h) ↔ az_mf (h.1 a) 8 5 (fun v => az_p83 C Q (49, lv, v :: st, h)) := az_wp_iff.trans az_go_gf
theorem az_s83_49 {x : Int32} : az_p83 C Q (49, lv, [.int x], h) ↔ Q (some (.int x)) h := az_wp_iff
def az_p84 (C : az_Cl) (Q : Option Value → az_H → Prop) : az_S → Prop := az_wp C (fun _ => none) (some .int) (az_fn az_k84) Q
theorem az_s84_0 : az_p84 C Q (0, lv, st, h) ↔ az_ma (lv 0) (fun x => az_p84 C Q (1, lv, x :: st, h)) := az_wp_iff.trans az_go_lda
theorem az_s84_1 {a : Nat} : az_p84 C Q (1, lv, .ref a :: st, h) ↔ az_mf (h.1 a) 8 8 (fun v => az_p84 C Q (4, lv, v :: st, h)) := az_wp_iff.trans az_go_gf
theorem az_s84_4 : az_p84 C Q (4, lv, st, h) ↔ az_ma (lv 0) (fun x => az_p84 C Q (5, lv, x :: st, h)) := az_wp_iff.trans az_go_lda
theorem az_s84_5 {a : Nat}  : az_p84 C Q (5, lv, .ref a :: st, h) ↔ az_isob (h.1 a) 8 = true ∧ az_cat st ≤ 8 ∧ az_mc C 82 [.ref a] h (fun v h' => az_p84 C Q (8, lv, v ++ st, h')) := az_wp_iff.trans (az_go_if.trans (and_congr Iff.rfl az_go_call))
theorem az_s84_8 {x y : Int32} : az_p84 C Q (8, lv, .int y :: .int x :: st, h) ↔ (y ≤ x → az_p84 C Q (35, lv, st, h)) ∧ (¬ y ≤ x → az_p84 C Q (11, lv, st, h)) := az_wp_iff.trans (az_go_if2 az_d_eq)
theorem az_s84_11 : az_p84 C Q (11, lv, st, h) ↔ az_ma (lv 0) (fun x => az_p84 C Q (12, lv, x :: st, h)) := az_wp_iff.trans az_go_lda
theorem az_s84_12 {a : Nat} : az_p84 C Q (12, lv, .ref a :: st, h) ↔ az_mf (h.1 a) 8 8 (fun v => az_p84 C Q (15, lv, v :: st, h)) := az_wp_iff.trans az_go_gf
theorem az_s84_15 : az_p84 C Q (15, lv, st, h) ↔ az_ma (lv 0) (fun x => az_p84 C Q (16, lv, x :: st, h)) := az_wp_iff.trans az_go_lda
theorem az_s84_16 {a : Nat} : az_p84 C Q (16, lv, .ref a :: st, h) ↔ az_mf (h.1 a) 8 6 (fun v => az_p84 C Q (19, lv, v :: st, h)) := az_wp_iff.trans az_go_gf
theorem az_s84_19 {a : Nat} : az_p84 C Q (19, lv, .ref a :: st, h) ↔ az_mn (h.1 a) (fun x => az_p84 C Q (20, lv, .int x :: st, h)) := az_wp_iff.trans az_go_aln
theorem az_s84_20 {x y : Int32} : az_p84 C Q (20, lv, .int y :: .int x :: st, h) ↔ (y ≤ x → az_p84 C Q (35, lv, st, h)) ∧ (¬ y ≤ x → az_p84 C Q (23, lv, st, h)) := az_wp_iff.trans (az_go_if2 az_d_eq)
theorem az_s84_23 : az_p84 C Q (23, lv, st, h) ↔ az_ma (lv 0) (fun x => az_p84 C Q (24, lv, x :: st, h)) := az_wp_iff.trans az_go_lda
theorem az_s84_24 {a : Nat} : az_p84 C Q (24, lv, .ref a :: st, h) ↔ az_mf (h.1 a) 8 8 (fun v => az_p84 C Q (27, lv, v :: st, h)) := az_wp_iff.trans az_go_gf
theorem az_s84_27 : az_p84 C Q (27, lv, st, h) ↔ az_ma (lv 0) (fun x => az_p84 C Q (28, lv, x :: st, h)) := az_wp_iff.trans az_go_lda
theorem az_s84_28 {a : Nat} : az_p84 C Q (28, lv, .ref a :: st, h) ↔ az_mf (h.1 a) 8 7 (fun v => az_p84 C Q (31, lv, v :: st, h)) := az_wp_iff.trans az_go_gf
theorem az_s84_31 {a : Nat} : az_p84 C Q (31, lv, .ref a :: st, h) ↔ az_mn (h.1 a) (fun x => az_p84 C Q (32, lv, .int x :: st, h)) := az_wp_iff.trans az_go_aln
theorem az_s84_32 {x y : Int32} : az_p84 C Q (32, lv, .int y :: .int x :: st, h) ↔ (x < y → az_p84 C Q (37, lv, st, h)) ∧ (¬ x < y → az_p84 C Q (35, lv, st, h)) := az_wp_iff.trans (az_go_if2 az_d_eq)
theorem az_s84_35 : az_p84 C Q (35, lv, st, h) ↔ az_p84 C Q (36, lv, .int (Int32.ofInt (-1)) :: st, h) := az_wp_iff
theorem az_s84_36 {x : Int32} : az_p84 C Q (36, lv, [.int x], h) ↔ Q (some (.int x)) h := az_wp_iff
theorem az_s84_37 : az_p84 C Q (37, lv, st, h) ↔ az_ma (lv 0) (fun x => az_p84 C Q (38, lv, x :: st, h)) := az_wp_iff.trans az_go_lda
theorem az_s84_38 {a : Nat} : az_p84 C Q (38, lv, .ref a :: st, h) ↔ az_mf (h.1 a) 8 1 (fun v => az_p84 C Q (41, lv, v :: st, h)) := az_wp_iff.trans az_go_gf
theorem az_s84_41 : az_p84 C Q (41, lv, st, h) ↔ az_p84 C Q (42, lv, .int (Int32.ofInt (2)) :: st, h) := az_wp_iff
theorem az_s84_42 {x y : Int32} : az_p84 C Q (42, lv, .int y :: .int x :: st, h) ↔ (¬ x = y → az_p84 C Q (58, lv, st, h)) ∧ (¬ ¬ x = y → az_p84 C Q (45, lv, st, h)) := az_wp_iff.trans (az_go_if2 az_d_eq)
theorem az_s84_45 : az_p84 C Q (45, lv, st, h) ↔ az_mi (lv 2) (fun x => az_p84 C Q (46, lv, .int x :: st, h)) := az_wp_iff.trans az_go_ldi
theorem az_s84_46 : az_p84 C Q (46, lv, st, h) ↔ az_p84 C Q (47, lv, .int (Int32.ofInt (1)) :: st, h) := az_wp_iff
theorem az_s84_47 : az_p84 C Q (47, lv, st, h) ↔ az_p84 C Q (50, lv, .int (Int32.ofInt (999)) :: st, h) := az_wp_iff
theorem az_s84_50 {v1 v2 v3 : Value} : az_p84 C Q (50, lv, v3 :: v2 :: v1 :: st, h) ↔ az_cat st ≤ 8 ∧ az_mc C 132 [v1, v2, v3] h (fun v h' => az_p84 C Q (53, lv, v ++ st, h')) := az_wp_iff.trans az_go_call
theorem az_s84_53 {x : Int32} : az_p84 C Q (53, lv, .int x :: st, h) ↔ (¬ x = 0 → az_p84 C Q (58, lv, st, h)) ∧ (¬ ¬ x = 0 → az_p84 C Q (56, lv, st, h)) := az_wp_iff.trans (az_go_if1 az_d_eq)
theorem az_s84_56 : az_p84 C Q (56, lv, st, h) ↔ az_p84 C Q (57, lv, .int (Int32.ofInt (-1)) :: st, h) := az_wp_iff
theorem az_s84_57 {x : Int32} : az_p84 C Q (57, lv, [.int x], h) ↔ Q (some (.int x)) h := az_wp_iff
theorem az_s84_58 : az_p84 C Q (58, lv, st, h) ↔ az_ma (lv 0) (fun x => az_p84 C Q (59, lv, x :: st, h)) := az_wp_iff.trans az_go_lda
theorem az_s84_59 {a : Nat} : az_p84 C Q (59, lv, .ref a :: st, h) ↔ az_mf (h.1 a) 8 6 (fun v => az_p84 C Q (62, lv, v :: st, h)) := az_wp_iff.trans az_go_gf
theorem az_s84_62 : az_p84 C Q (62, lv, st, h) ↔ az_ma (lv 0) (fun x => az_p84 C Q (63, lv, x :: st, h)) := az_wp_iff.trans az_go_lda
theorem az_s84_63 {a : Nat} : az_p84 C Q (63, lv, .ref a :: st, h) ↔ az_mf (h.1 a) 8 8 (fun v => az_p84 C Q (66, lv, v :: st, h)) := az_wp_iff.trans az_go_gf
theorem az_s84_66 : az_p84 C Q (66, lv, st, h) ↔ az_mi (lv 1) (fun x => az_p84 C Q (67, lv, .int x :: st, h)) := az_wp_iff.trans az_go_ldi
theorem az_s84_67 {a : Nat} {i x : Int32} : az_p84 C Q (67, lv, .int x :: .int i :: .ref a :: st, h) ↔ az_mw' (h.1 a) i.toInt x (fun c => az_p84 C Q (68, lv, st, az_uh h a c)) := az_wp_iff.trans az_go_ias
theorem az_s84_68 : az_p84 C Q (68, lv, st, h) ↔ az_ma (lv 0) (fun x => az_p84 C Q (69, lv, x :: st, h)) := az_wp_iff.trans az_go_lda
theorem az_s84_69 {a : Nat} : az_p84 C Q (69, lv, .ref a :: st, h) ↔ az_mf (h.1 a) 8 7 (fun v => az_p84 C Q (72, lv, v :: st, h)) := az_wp_iff.trans az_go_gf
theorem az_s84_72 : az_p84 C Q (72, lv, st, h) ↔ az_ma (lv 0) (fun x => az_p84 C Q (73, lv, x :: st, h)) := az_wp_iff.trans az_go_lda
theorem az_s84_73 {a : Nat} : az_p84 C Q (73, lv, .ref a :: st, h) ↔ az_mf (h.1 a) 8 8 (fun v => az_p84 C Q (76, lv, v :: st, h)) := az_wp_iff.trans az_go_gf
theorem az_s84_76 : az_p84 C Q (76, lv, st, h) ↔ az_mi (lv 2) (fun x => az_p84 C Q (77, lv, .int x :: st, h)) := az_wp_iff.trans az_go_ldi
theorem az_s84_77 {a : Nat} {i x : Int32} : az_p84 C Q (77, lv, .int x :: .int i :: .ref a :: st, h) ↔ az_mw' (h.1 a) i.toInt x (fun c => az_p84 C Q (78, lv, st, az_uh h a c)) := az_wp_iff.trans az_go_ias
theorem az_s84_78 : az_p84 C Q (78, lv, st, h) ↔ az_ma (lv 0) (fun x => az_p84 C Q (79, lv, x :: st, h)) := az_wp_iff.trans az_go_lda
theorem az_s84_79 {x : Int32} : az_p84 C Q (79, lv, .int x :: st, h) ↔ az_p84 C Q (80, lv, .int x :: .int x :: st, h) := az_wp_iff
theorem az_s84_79r {x : Nat} : az_p84 C Q (79, lv, .ref x :: st, h) ↔ az_p84 C Q (80, lv, .ref x :: .ref x :: st, h) := az_wp_iff
theorem az_s84_80 {a : Nat} : az_p84 C Q (80, lv, .ref a :: st, h) ↔ az_mf (h.1 a) 8 8 (fun v => az_p84 C Q (83, lv, v :: st, h)) := az_wp_iff.trans az_go_gf
theorem az_s84_83 : az_p84 C Q (83, lv, st, h) ↔ az_p84 C Q (84, lv, .int (Int32.ofInt (1)) :: st, h) := az_wp_iff
theorem az_s84_84 {x y : Int32} : az_p84 C Q (84, lv, .int y :: .int x :: st, h) ↔ az_p84 C Q (85, lv, .int (x + y) :: st, h) := az_wp_iff
theorem az_s84_85 {a : Nat} {v : Value} : az_p84 C Q (85, lv, v :: .ref a :: st, h) ↔ az_mp (h.1 a) 8 8 0 v (fun c => az_p84 C Q (88, lv, st, az_uh h a c)) := az_wp_iff.trans az_go_pf
theorem az_s84_88 : az_p84 C Q (88, lv, st, h) ↔ az_ma (lv 0) (fun x => az_p84 C Q (89, lv, x :: st, h)) := az_wp_iff.trans az_go_lda
theorem az_s84_89 {a : Nat} : az_p84 C Q (89, lv, .ref a :: st, h) ↔ az_mf (h.1 a) 8 8 (fun v => az_p84 C Q (92, lv, v :: st, h)) := az_wp_iff.trans az_go_gf
theorem az_s84_92 {x : Int32} : az_p84 C Q (92, lv, [.int x], h) ↔ Q (some (.int x)) h := az_wp_iff
def az_p85 (C : az_Cl) (Q : Option Value → az_H → Prop) : az_S → Prop := az_wp C (fun _ => none) (some .int) (az_fn az_k85) Q
theorem az_s85_0 : az_p85 C Q (0, lv, st, h) ↔ az_mi (lv 1) (fun x => az_p85 C Q (1, lv, .int x :: st, h)) := az_wp_iff.trans az_go_ldi
theorem az_s85_1 {x : Int32} : az_p85 C Q (1, lv, .int x :: st, h) ↔ (x < 0 → az_p85 C Q (30, lv, st, h)) ∧ (¬ x < 0 → az_p85 C Q (4, lv, st, h)) := az_wp_iff.trans (az_go_if1 az_d_eq)
theorem az_s85_4 : az_p85 C Q (4, lv, st, h) ↔ az_mi (lv 1) (fun x => az_p85 C Q (5, lv, .int x :: st, h)) := az_wp_iff.trans az_go_ldi
theorem az_s85_5 : az_p85 C Q (5, lv, st, h) ↔ az_ma (lv 0) (fun x => az_p85 C Q (6, lv, x :: st, h)) := az_wp_iff.trans az_go_lda
theorem az_s85_6 {a : Nat} : az_p85 C Q (6, lv, .ref a :: st, h) ↔ az_mf (h.1 a) 8 5 (fun v => az_p85 C Q (9, lv, v :: st, h)) := az_wp_iff.trans az_go_gf
theorem az_s85_9 {x y : Int32} : az_p85 C Q (9, lv, .int y :: .int x :: st, h) ↔ (y ≤ x → az_p85 C Q (30, lv, st, h)) ∧ (¬ y ≤ x → az_p85 C Q (12, lv, st, h)) := az_wp_iff.trans (az_go_if2 az_d_eq)
theorem az_s85_12 : az_p85 C Q (12, lv, st, h) ↔ az_mi (lv 1) (fun x => az_p85 C Q (13, lv, .int x :: st, h)) := az_wp_iff.trans az_go_ldi
theorem az_s85_13 : az_p85 C Q (13, lv, st, h) ↔ az_ma (lv 0) (fun x => az_p85 C Q (14, lv, x :: st, h)) := az_wp_iff.trans az_go_lda
theorem az_s85_14 {a : Nat} : az_p85 C Q (14, lv, .ref a :: st, h) ↔ az_mf (h.1 a) 8 4 (fun v => az_p85 C Q (17, lv, v :: st, h)) := az_wp_iff.trans az_go_gf
theorem az_s85_17 {a : Nat} : az_p85 C Q (17, lv, .ref a :: st, h) ↔ az_mn (h.1 a) (fun x => az_p85 C Q (18, lv, .int x :: st, h)) := az_wp_iff.trans az_go_aln
theorem az_s85_18 {x y : Int32} : az_p85 C Q (18, lv, .int y :: .int x :: st, h) ↔ (y ≤ x → az_p85 C Q (30, lv, st, h)) ∧ (¬ y ≤ x → az_p85 C Q (21, lv, st, h)) := az_wp_iff.trans (az_go_if2 az_d_eq)
theorem az_s85_21 : az_p85 C Q (21, lv, st, h) ↔ az_ma (lv 0) (fun x => az_p85 C Q (22, lv, x :: st, h)) := az_wp_iff.trans az_go_lda
theorem az_s85_22 {a : Nat} : az_p85 C Q (22, lv, .ref a :: st, h) ↔ az_mf (h.1 a) 8 4 (fun v => az_p85 C Q (25, lv, v :: st, h)) := az_wp_iff.trans az_go_gf
theorem az_s85_25 : az_p85 C Q (25, lv, st, h) ↔ az_mi (lv 1) (fun x => az_p85 C Q (26, lv, .int x :: st, h)) := az_wp_iff.trans az_go_ldi
theorem az_s85_26 {a : Nat} {i : Int32} : az_p85 C Q (26, lv, .int i :: .ref a :: st, h) ↔ az_mr (h.1 a) 0 i.toInt (fun x => az_p85 C Q (27, lv, .int x :: st, h)) := az_wp_iff.trans az_go_ial
theorem az_s85_27 : az_p85 C Q (27, lv, st, h) ↔ az_p85 C Q (31, lv, st, h) := az_wp_iff
theorem az_s85_30 : az_p85 C Q (30, lv, st, h) ↔ az_p85 C Q (31, lv, .int (Int32.ofInt (-1)) :: st, h) := az_wp_iff
theorem az_s85_31 {x : Int32} : az_p85 C Q (31, lv, [.int x], h) ↔ Q (some (.int x)) h := az_wp_iff
def az_p86 (C : az_Cl) (Q : Option Value → az_H → Prop) : az_S → Prop := az_wp C (fun _ => none) (some .int) (az_fn az_k86) Q
theorem az_s86_0 : az_p86 C Q (0, lv, st, h) ↔ az_mi (lv 1) (fun x => az_p86 C Q (1, lv, .int x :: st, h)) := az_wp_iff.trans az_go_ldi
theorem az_s86_1 {x : Int32} : az_p86 C Q (1, lv, .int x :: st, h) ↔ (x < 0 → az_p86 C Q (30, lv, st, h)) ∧ (¬ x < 0 → az_p86 C Q (4, lv, st, h)) := az_wp_iff.trans (az_go_if1 az_d_eq)
theorem az_s86_4 : az_p86 C Q (4, lv, st, h) ↔ az_mi (lv 1) (fun x => az_p86 C Q (5, lv, .int x :: st, h)) := az_wp_iff.trans az_go_ldi
theorem az_s86_5 : az_p86 C Q (5, lv, st, h) ↔ az_ma (lv 0) (fun x => az_p86 C Q (6, lv, x :: st, h)) := az_wp_iff.trans az_go_lda
theorem az_s86_6 {a : Nat} : az_p86 C Q (6, lv, .ref a :: st, h) ↔ az_mf (h.1 a) 8 8 (fun v => az_p86 C Q (9, lv, v :: st, h)) := az_wp_iff.trans az_go_gf
theorem az_s86_9 {x y : Int32} : az_p86 C Q (9, lv, .int y :: .int x :: st, h) ↔ (y ≤ x → az_p86 C Q (30, lv, st, h)) ∧ (¬ y ≤ x → az_p86 C Q (12, lv, st, h)) := az_wp_iff.trans (az_go_if2 az_d_eq)
theorem az_s86_12 : az_p86 C Q (12, lv, st, h) ↔ az_mi (lv 1) (fun x => az_p86 C Q (13, lv, .int x :: st, h)) := az_wp_iff.trans az_go_ldi
theorem az_s86_13 : az_p86 C Q (13, lv, st, h) ↔ az_ma (lv 0) (fun x => az_p86 C Q (14, lv, x :: st, h)) := az_wp_iff.trans az_go_lda
theorem az_s86_14 {a : Nat} : az_p86 C Q (14, lv, .ref a :: st, h) ↔ az_mf (h.1 a) 8 6 (fun v => az_p86 C Q (17, lv, v :: st, h)) := az_wp_iff.trans az_go_gf
theorem az_s86_17 {a : Nat} : az_p86 C Q (17, lv, .ref a :: st, h) ↔ az_mn (h.1 a) (fun x => az_p86 C Q (18, lv, .int x :: st, h)) := az_wp_iff.trans az_go_aln
theorem az_s86_18 {x y : Int32} : az_p86 C Q (18, lv, .int y :: .int x :: st, h) ↔ (y ≤ x → az_p86 C Q (30, lv, st, h)) ∧ (¬ y ≤ x → az_p86 C Q (21, lv, st, h)) := az_wp_iff.trans (az_go_if2 az_d_eq)
theorem az_s86_21 : az_p86 C Q (21, lv, st, h) ↔ az_ma (lv 0) (fun x => az_p86 C Q (22, lv, x :: st, h)) := az_wp_iff.trans az_go_lda
theorem az_s86_22 {a : Nat} : az_p86 C Q (22, lv, .ref a :: st, h) ↔ az_mf (h.1 a) 8 6 (fun v => az_p86 C Q (25, lv, v :: st, h)) := az_wp_iff.trans az_go_gf
theorem az_s86_25 : az_p86 C Q (25, lv, st, h) ↔ az_mi (lv 1) (fun x => az_p86 C Q (26, lv, .int x :: st, h)) := az_wp_iff.trans az_go_ldi
theorem az_s86_26 {a : Nat} {i : Int32} : az_p86 C Q (26, lv, .int i :: .ref a :: st, h) ↔ az_mr (h.1 a) 0 i.toInt (fun x => az_p86 C Q (27, lv, .int x :: st, h)) := az_wp_iff.trans az_go_ial
theorem az_s86_27 : az_p86 C Q (27, lv, st, h) ↔ az_p86 C Q (31, lv, st, h) := az_wp_iff
theorem az_s86_30 : az_p86 C Q (30, lv, st, h) ↔ az_p86 C Q (31, lv, .int (Int32.ofInt (-1)) :: st, h) := az_wp_iff
theorem az_s86_31 {x : Int32} : az_p86 C Q (31, lv, [.int x], h) ↔ Q (some (.int x)) h := az_wp_iff
def az_p87 (C : az_Cl) (Q : Option Value → az_H → Prop) : az_S → Prop := az_wp C (fun _ => none) (some .int) (az_fn az_k87) Q
theorem az_s87_0 : az_p87 C Q (0, lv, st, h) ↔ az_mi (lv 1) (fun x => az_p87 C Q (1, lv, .int x :: st, h)) := az_wp_iff.trans az_go_ldi
theorem az_s87_1 {x : Int32} : az_p87 C Q (1, lv, .int x :: st, h) ↔ (x < 0 → az_p87 C Q (30, lv, st, h)) ∧ (¬ x < 0 → az_p87 C Q (4, lv, st, h)) := az_wp_iff.trans (az_go_if1 az_d_eq)
theorem az_s87_4 : az_p87 C Q (4, lv, st, h) ↔ az_mi (lv 1) (fun x => az_p87 C Q (5, lv, .int x :: st, h)) := az_wp_iff.trans az_go_ldi
theorem az_s87_5 : az_p87 C Q (5, lv, st, h) ↔ az_ma (lv 0) (fun x => az_p87 C Q (6, lv, x :: st, h)) := az_wp_iff.trans az_go_lda
theorem az_s87_6 {a : Nat} : az_p87 C Q (6, lv, .ref a :: st, h) ↔ az_mf (h.1 a) 8 8 (fun v => az_p87 C Q (9, lv, v :: st, h)) := az_wp_iff.trans az_go_gf
theorem az_s87_9 {x y : Int32} : az_p87 C Q (9, lv, .int y :: .int x :: st, h) ↔ (y ≤ x → az_p87 C Q (30, lv, st, h)) ∧ (¬ y ≤ x → az_p87 C Q (12, lv, st, h)) := az_wp_iff.trans (az_go_if2 az_d_eq)
theorem az_s87_12 : az_p87 C Q (12, lv, st, h) ↔ az_mi (lv 1) (fun x => az_p87 C Q (13, lv, .int x :: st, h)) := az_wp_iff.trans az_go_ldi
theorem az_s87_13 : az_p87 C Q (13, lv, st, h) ↔ az_ma (lv 0) (fun x => az_p87 C Q (14, lv, x :: st, h)) := az_wp_iff.trans az_go_lda
theorem az_s87_14 {a : Nat} : az_p87 C Q (14, lv, .ref a :: st, h) ↔ az_mf (h.1 a) 8 7 (fun v => az_p87 C Q (17, lv, v :: st, h)) := az_wp_iff.trans az_go_gf
theorem az_s87_17 {a : Nat} : az_p87 C Q (17, lv, .ref a :: st, h) ↔ az_mn (h.1 a) (fun x => az_p87 C Q (18, lv, .int x :: st, h)) := az_wp_iff.trans az_go_aln
theorem az_s87_18 {x y : Int32} : az_p87 C Q (18, lv, .int y :: .int x :: st, h) ↔ (y ≤ x → az_p87 C Q (30, lv, st, h)) ∧ (¬ y ≤ x → az_p87 C Q (21, lv, st, h)) := az_wp_iff.trans (az_go_if2 az_d_eq)
theorem az_s87_21 : az_p87 C Q (21, lv, st, h) ↔ az_ma (lv 0) (fun x => az_p87 C Q (22, lv, x :: st, h)) := az_wp_iff.trans az_go_lda
theorem az_s87_22 {a : Nat} : az_p87 C Q (22, lv, .ref a :: st, h) ↔ az_mf (h.1 a) 8 7 (fun v => az_p87 C Q (25, lv, v :: st, h)) := az_wp_iff.trans az_go_gf
theorem az_s87_25 : az_p87 C Q (25, lv, st, h) ↔ az_mi (lv 1) (fun x => az_p87 C Q (26, lv, .int x :: st, h)) := az_wp_iff.trans az_go_ldi
theorem az_s87_26 {a : Nat} {i : Int32} : az_p87 C Q (26, lv, .int i :: .ref a :: st, h) ↔ az_mr (h.1 a) 0 i.toInt (fun x => az_p87 C Q (27, lv, .int x :: st, h)) := az_wp_iff.trans az_go_ial
theorem az_s87_27 : az_p87 C Q (27, lv, st, h) ↔ az_p87 C Q (31, lv, st, h) := az_wp_iff
theorem az_s87_30 : az_p87 C Q (30, lv, st, h) ↔ az_p87 C Q (31, lv, .int (Int32.ofInt (0)) :: st, h) := az_wp_iff
theorem az_s87_31 {x : Int32} : az_p87 C Q (31, lv, [.int x], h) ↔ Q (some (.int x)) h := az_wp_iff
def az_p88 (C : az_Cl) (Q : Option Value → az_H → Prop) : az_S → Prop := az_wp C (fun _ => none) (some .boolean) (az_fn az_k88) Q
theorem az_s88_0 : az_p88 C Q (0, lv, st, h) ↔ az_mi (lv 1) (fun x => az_p88 C Q (1, lv, .int x :: st, h)) := az_wp_iff.trans az_go_ldi
theorem az_s88_1 {x : Int32} : az_p88 C Q (1, lv, .int x :: st, h) ↔ (x < 0 → az_p88 C Q (21, lv, st, h)) ∧ (¬ x < 0 → az_p88 C Q (4, lv, st, h)) := az_wp_iff.trans (az_go_if1 az_d_eq)
theorem az_s88_4 : az_p88 C Q (4, lv, st, h) ↔ az_mi (lv 1) (fun x => az_p88 C Q (5, lv, .int x :: st, h)) := az_wp_iff.trans az_go_ldi
theorem az_s88_5 : az_p88 C Q (5, lv, st, h) ↔ az_ma (lv 0) (fun x => az_p88 C Q (6, lv, x :: st, h)) := az_wp_iff.trans az_go_lda
theorem az_s88_6 {a : Nat} : az_p88 C Q (6, lv, .ref a :: st, h) ↔ az_mf (h.1 a) 8 8 (fun v => az_p88 C Q (9, lv, v :: st, h)) := az_wp_iff.trans az_go_gf
theorem az_s88_9 {x y : Int32} : az_p88 C Q (9, lv, .int y :: .int x :: st, h) ↔ (y ≤ x → az_p88 C Q (21, lv, st, h)) ∧ (¬ y ≤ x → az_p88 C Q (12, lv, st, h)) := az_wp_iff.trans (az_go_if2 az_d_eq)
theorem az_s88_12 : az_p88 C Q (12, lv, st, h) ↔ az_mi (lv 1) (fun x => az_p88 C Q (13, lv, .int x :: st, h)) := az_wp_iff.trans az_go_ldi
theorem az_s88_13 : az_p88 C Q (13, lv, st, h) ↔ az_ma (lv 0) (fun x => az_p88 C Q (14, lv, x :: st, h)) := az_wp_iff.trans az_go_lda
theorem az_s88_14 {a : Nat} : az_p88 C Q (14, lv, .ref a :: st, h) ↔ az_mf (h.1 a) 8 6 (fun v => az_p88 C Q (17, lv, v :: st, h)) := az_wp_iff.trans az_go_gf
theorem az_s88_17 {a : Nat} : az_p88 C Q (17, lv, .ref a :: st, h) ↔ az_mn (h.1 a) (fun x => az_p88 C Q (18, lv, .int x :: st, h)) := az_wp_iff.trans az_go_aln
theorem az_s88_18 {x y : Int32} : az_p88 C Q (18, lv, .int y :: .int x :: st, h) ↔ (x < y → az_p88 C Q (23, lv, st, h)) ∧ (¬ x < y → az_p88 C Q (21, lv, st, h)) := az_wp_iff.trans (az_go_if2 az_d_eq)
theorem az_s88_21 : az_p88 C Q (21, lv, st, h) ↔ az_p88 C Q (22, lv, .int (Int32.ofInt (0)) :: st, h) := az_wp_iff
theorem az_s88_22 {x : Int32} : az_p88 C Q (22, lv, [.int x], h) ↔ (x = 0 ∨ x = 1) ∧ Q (some (.int x)) h := az_wp_iff.trans az_go_if
theorem az_s88_23 : az_p88 C Q (23, lv, st, h) ↔ az_ma (lv 0) (fun x => az_p88 C Q (24, lv, x :: st, h)) := az_wp_iff.trans az_go_lda
theorem az_s88_24 {a : Nat} : az_p88 C Q (24, lv, .ref a :: st, h) ↔ az_mf (h.1 a) 8 6 (fun v => az_p88 C Q (27, lv, v :: st, h)) := az_wp_iff.trans az_go_gf
theorem az_s88_27 : az_p88 C Q (27, lv, st, h) ↔ az_mi (lv 1) (fun x => az_p88 C Q (28, lv, .int x :: st, h)) := az_wp_iff.trans az_go_ldi
theorem az_s88_28 : az_p88 C Q (28, lv, st, h) ↔ az_mi (lv 2) (fun x => az_p88 C Q (29, lv, .int x :: st, h)) := az_wp_iff.trans az_go_ldi
theorem az_s88_29 {a : Nat} {i x : Int32} : az_p88 C Q (29, lv, .int x :: .int i :: .ref a :: st, h) ↔ az_mw' (h.1 a) i.toInt x (fun c => az_p88 C Q (30, lv, st, az_uh h a c)) := az_wp_iff.trans az_go_ias
theorem az_s88_30 : az_p88 C Q (30, lv, st, h) ↔ az_p88 C Q (31, lv, .int (Int32.ofInt (1)) :: st, h) := az_wp_iff
theorem az_s88_31 {x : Int32} : az_p88 C Q (31, lv, [.int x], h) ↔ (x = 0 ∨ x = 1) ∧ Q (some (.int x)) h := az_wp_iff.trans az_go_if
def az_p89 (C : az_Cl) (Q : Option Value → az_H → Prop) : az_S → Prop := az_wp C (fun _ => none) (some .boolean) (az_fn az_k89) Q
theorem az_s89_0 : az_p89 C Q (0, lv, st, h) ↔ az_p89 C Q (1, lv, .int (Int32.ofInt (0)) :: st, h) := az_wp_iff
theorem az_s89_1 {x : Int32} : az_p89 C Q (1, lv, .int x :: st, h) ↔ az_p89 C Q (2, (az_s1 lv 2 (.int x)), st, h) := az_wp_iff
theorem az_s89_2 : az_p89 C Q (2, lv, st, h) ↔ az_mi (lv 2) (fun x => az_p89 C Q (3, lv, .int x :: st, h)) := az_wp_iff.trans az_go_ldi
theorem az_s89_3 : az_p89 C Q (3, lv, st, h) ↔ az_ma (lv 0) (fun x => az_p89 C Q (4, lv, x :: st, h)) := az_wp_iff.trans az_go_lda
theorem az_s89_4 {a : Nat} : az_p89 C Q (4, lv, .ref a :: st, h) ↔ az_mf (h.1 a) 8 5 (fun v => az_p89 C Q (7, lv, v :: st, h)) := az_wp_iff.trans az_go_gf
theorem az_s89_7 {x y : Int32} : az_p89 C Q (7, lv, .int y :: .int x :: st, h) ↔ (y ≤ x → az_p89 C Q (27, lv, st, h)) ∧ (¬ y ≤ x → az_p89 C Q (10, lv, st, h)) := az_wp_iff.trans (az_go_if2 az_d_eq)
theorem az_s89_10 : az_p89 C Q (10, lv, st, h) ↔ az_ma (lv 0) (fun x => az_p89 C Q (11, lv, x :: st, h)) := az_wp_iff.trans az_go_lda
theorem az_s89_11 : az_p89 C Q (11, lv, st, h) ↔ az_mi (lv 2) (fun x => az_p89 C Q (12, lv, .int x :: st, h)) := az_wp_iff.trans az_go_ldi
theorem az_s89_12 {a : Nat} {v1 : Value} : az_p89 C Q (12, lv, v1 :: .ref a :: st, h) ↔ az_isob (h.1 a) 8 = true ∧ az_cat st ≤ 8 ∧ az_mc C 85 [.ref a, v1] h (fun v h' => az_p89 C Q (15, lv, v ++ st, h')) := az_wp_iff.trans (az_go_if.trans (and_congr Iff.rfl az_go_call))
theorem az_s89_15 : az_p89 C Q (15, lv, st, h) ↔ az_mi (lv 1) (fun x => az_p89 C Q (16, lv, .int x :: st, h)) := az_wp_iff.trans az_go_ldi
theorem az_s89_16 {x y : Int32} : az_p89 C Q (16, lv, .int y :: .int x :: st, h) ↔ (¬ x = y → az_p89 C Q (21, lv, st, h)) ∧ (¬ ¬ x = y → az_p89 C Q (19, lv, st, h)) := az_wp_iff.trans (az_go_if2 az_d_eq)
theorem az_s89_19 : az_p89 C Q (19, lv, st, h) ↔ az_p89 C Q (20, lv, .int (Int32.ofInt (1)) :: st, h) := az_wp_iff
theorem az_s89_20 {x : Int32} : az_p89 C Q (20, lv, [.int x], h) ↔ (x = 0 ∨ x = 1) ∧ Q (some (.int x)) h := az_wp_iff.trans az_go_if
theorem az_s89_21 : az_p89 C Q (21, lv, st, h) ↔ az_mi (lv 2) (fun x => az_p89 C Q (24, (az_s1 lv 2 (.int (x + Int32.ofInt (1)))), st, h)) := az_wp_iff.trans az_go_inc
theorem az_s89_24 : az_p89 C Q (24, lv, st, h) ↔ az_p89 C Q (2, lv, st, h) := az_wp_iff
theorem az_s89_27 : az_p89 C Q (27, lv, st, h) ↔ az_p89 C Q (28, lv, .int (Int32.ofInt (0)) :: st, h) := az_wp_iff
theorem az_s89_28 {x : Int32} : az_p89 C Q (28, lv, [.int x], h) ↔ (x = 0 ∨ x = 1) ∧ Q (some (.int x)) h := az_wp_iff.trans az_go_if
def az_p90 (C : az_Cl) (Q : Option Value → az_H → Prop) : az_S → Prop := az_wp C (fun _ => none) (some .boolean) (az_fn az_k90) Q
theorem az_s90_0 : az_p90 C Q (0, lv, st, h) ↔ az_ma (lv 0) (fun x => az_p90 C Q (1, lv, x :: st, h)) := az_wp_iff.trans az_go_lda
theorem az_s90_1 {a : Nat} : az_p90 C Q (1, lv, .ref a :: st, h) ↔ az_mf (h.1 a) 8 5 (fun v => az_p90 C Q (4, lv, v :: st, h)) := az_wp_iff.trans az_go_gf
theorem az_s90_4 : az_p90 C Q (4, lv, st, h) ↔ az_p90 C Q (5, lv, .int (Int32.ofInt (2)) :: st, h) := az_wp_iff
theorem az_s90_5 {x y : Int32} : az_p90 C Q (5, lv, .int y :: .int x :: st, h) ↔ (¬ x = y → az_p90 C Q (25, lv, st, h)) ∧ (¬ ¬ x = y → az_p90 C Q (8, lv, st, h)) := az_wp_iff.trans (az_go_if2 az_d_eq)
theorem az_s90_8 : az_p90 C Q (8, lv, st, h) ↔ az_ma (lv 0) (fun x => az_p90 C Q (9, lv, x :: st, h)) := az_wp_iff.trans az_go_lda
theorem az_s90_9 : az_p90 C Q (9, lv, st, h) ↔ az_p90 C Q (10, lv, .int (Int32.ofInt (0)) :: st, h) := az_wp_iff
theorem az_s90_10 {a : Nat} {v1 : Value} : az_p90 C Q (10, lv, v1 :: .ref a :: st, h) ↔ az_isob (h.1 a) 8 = true ∧ az_cat st ≤ 8 ∧ az_mc C 85 [.ref a, v1] h (fun v h' => az_p90 C Q (13, lv, v ++ st, h')) := az_wp_iff.trans (az_go_if.trans (and_congr Iff.rfl az_go_call))
theorem az_s90_13 : az_p90 C Q (13, lv, st, h) ↔ az_ma (lv 0) (fun x => az_p90 C Q (14, lv, x :: st, h)) := az_wp_iff.trans az_go_lda
theorem az_s90_14 : az_p90 C Q (14, lv, st, h) ↔ az_p90 C Q (15, lv, .int (Int32.ofInt (1)) :: st, h) := az_wp_iff
theorem az_s90_15 {a : Nat} {v1 : Value} : az_p90 C Q (15, lv, v1 :: .ref a :: st, h) ↔ az_isob (h.1 a) 8 = true ∧ az_cat st ≤ 8 ∧ az_mc C 85 [.ref a, v1] h (fun v h' => az_p90 C Q (18, lv, v ++ st, h')) := az_wp_iff.trans (az_go_if.trans (and_congr Iff.rfl az_go_call))
theorem az_s90_18 {x y : Int32} : az_p90 C Q (18, lv, .int y :: .int x :: st, h) ↔ (¬ x = y → az_p90 C Q (25, lv, st, h)) ∧ (¬ ¬ x = y → az_p90 C Q (21, lv, st, h)) := az_wp_iff.trans (az_go_if2 az_d_eq)
theorem az_s90_21 : az_p90 C Q (21, lv, st, h) ↔ az_p90 C Q (22, lv, .int (Int32.ofInt (1)) :: st, h) := az_wp_iff
theorem az_s90_22 : az_p90 C Q (22, lv, st, h) ↔ az_p90 C Q (26, lv, st, h) := az_wp_iff
theorem az_s90_25 : az_p90 C Q (25, lv, st, h) ↔ az_p90 C Q (26, lv, .int (Int32.ofInt (0)) :: st, h) := az_wp_iff
theorem az_s90_26 {x : Int32} : az_p90 C Q (26, lv, [.int x], h) ↔ (x = 0 ∨ x = 1) ∧ Q (some (.int x)) h := az_wp_iff.trans az_go_if
def az_p91 (C : az_Cl) (Q : Option Value → az_H → Prop) : az_S → Prop := az_wp C (fun _ => none) (some .boolean) (az_fn az_k91) Q
theorem az_s91_0 : az_p91 C Q (0, lv, st, h) ↔ az_ma (lv 0) (fun x => az_p91 C Q (1, lv, x :: st, h)) := az_wp_iff.trans az_go_lda
theorem az_s91_1 {a : Nat} : az_p91 C Q (1, lv, .ref a :: st, h) ↔ az_mf (h.1 a) 8 1 (fun v => az_p91 C Q (4, lv, v :: st, h)) := az_wp_iff.trans az_go_gf
theorem az_s91_4 : az_p91 C Q (4, lv, st, h) ↔ az_p91 C Q (5, lv, .int (Int32.ofInt (2)) :: st, h) := az_wp_iff
theorem az_s91_5 {x y : Int32} : az_p91 C Q (5, lv, .int y :: .int x :: st, h) ↔ (x = y → az_p91 C Q (10, lv, st, h)) ∧ (¬ x = y → az_p91 C Q (8, lv, st, h)) := az_wp_iff.trans (az_go_if2 az_d_eq)
theorem az_s91_8 : az_p91 C Q (8, lv, st, h) ↔ az_p91 C Q (9, lv, .int (Int32.ofInt (1)) :: st, h) := az_wp_iff
theorem az_s91_9 {x : Int32} : az_p91 C Q (9, lv, [.int x], h) ↔ (x = 0 ∨ x = 1) ∧ Q (some (.int x)) h := az_wp_iff.trans az_go_if
theorem az_s91_10 : az_p91 C Q (10, lv, st, h) ↔ az_p91 C Q (11, lv, .int (Int32.ofInt (0)) :: st, h) := az_wp_iff
theorem az_s91_11 {x : Int32} : az_p91 C Q (11, lv, .int x :: st, h) ↔ az_p91 C Q (12, (az_s1 lv 1 (.int x)), st, h) := az_wp_iff
theorem az_s91_12 : az_p91 C Q (12, lv, st, h) ↔ az_p91 C Q (13, lv, .int (Int32.ofInt (0)) :: st, h) := az_wp_iff
theorem az_s91_13 {x : Int32} : az_p91 C Q (13, lv, .int x :: st, h) ↔ az_p91 C Q (14, (az_s1 lv 2 (.int x)), st, h) := az_wp_iff
theorem az_s91_14 : az_p91 C Q (14, lv, st, h) ↔ az_mi (lv 2) (fun x => az_p91 C Q (15, lv, .int x :: st, h)) := az_wp_iff.trans az_go_ldi
theorem az_s91_15 : az_p91 C Q (15, lv, st, h) ↔ az_ma (lv 0) (fun x => az_p91 C Q (16, lv, x :: st, h)) := az_wp_iff.trans az_go_lda
theorem az_s91_16 {a : Nat} : az_p91 C Q (16, lv, .ref a :: st, h) ↔ az_mf (h.1 a) 8 8 (fun v => az_p91 C Q (19, lv, v :: st, h)) := az_wp_iff.trans az_go_gf
theorem az_s91_19 {x y : Int32} : az_p91 C Q (19, lv, .int y :: .int x :: st, h) ↔ (y ≤ x → az_p91 C Q (36, lv, st, h)) ∧ (¬ y ≤ x → az_p91 C Q (22, lv, st, h)) := az_wp_iff.trans (az_go_if2 az_d_eq)
theorem az_s91_22 : az_p91 C Q (22, lv, st, h) ↔ az_mi (lv 1) (fun x => az_p91 C Q (23, lv, .int x :: st, h)) := az_wp_iff.trans az_go_ldi
theorem az_s91_23 : az_p91 C Q (23, lv, st, h) ↔ az_ma (lv 0) (fun x => az_p91 C Q (24, lv, x :: st, h)) := az_wp_iff.trans az_go_lda
theorem az_s91_24 : az_p91 C Q (24, lv, st, h) ↔ az_mi (lv 2) (fun x => az_p91 C Q (25, lv, .int x :: st, h)) := az_wp_iff.trans az_go_ldi
theorem az_s91_25 {a : Nat} {v1 : Value} : az_p91 C Q (25, lv, v1 :: .ref a :: st, h) ↔ az_isob (h.1 a) 8 = true ∧ az_cat st ≤ 8 ∧ az_mc C 87 [.ref a, v1] h (fun v h' => az_p91 C Q (28, lv, v ++ st, h')) := az_wp_iff.trans (az_go_if.trans (and_congr Iff.rfl az_go_call))
theorem az_s91_28 {x y : Int32} : az_p91 C Q (28, lv, .int y :: .int x :: st, h) ↔ az_p91 C Q (29, lv, .int (x + y) :: st, h) := az_wp_iff
theorem az_s91_29 {x : Int32} : az_p91 C Q (29, lv, .int x :: st, h) ↔ az_p91 C Q (30, (az_s1 lv 1 (.int x)), st, h) := az_wp_iff
theorem az_s91_30 : az_p91 C Q (30, lv, st, h) ↔ az_mi (lv 2) (fun x => az_p91 C Q (33, (az_s1 lv 2 (.int (x + Int32.ofInt (1)))), st, h)) := az_wp_iff.trans az_go_inc
theorem az_s91_33 : az_p91 C Q (33, lv, st, h) ↔ az_p91 C Q (14, lv, st, h) := az_wp_iff
theorem az_s91_36 : az_p91 C Q (36, lv, st, h) ↔ az_mi (lv 1) (fun x => az_p91 C Q (37, lv, .int x :: st, h)) := az_wp_iff.trans az_go_ldi
theorem az_s91_37 : az_p91 C Q (37, lv, st, h) ↔ az_p91 C Q (40, lv, .int (Int32.ofInt (1000)) :: st, h) := az_wp_iff
theorem az_s91_40 {x y : Int32} : az_p91 C Q (40, lv, .int y :: .int x :: st, h) ↔ (¬ x = y → az_p91 C Q (47, lv, st, h)) ∧ (¬ ¬ x = y → az_p91 C Q (43, lv, st, h)) := az_wp_iff.trans (az_go_if2 az_d_eq)
theorem az_s91_43 : az_p91 C Q (43, lv, st, h) ↔ az_p91 C Q (44, lv, .int (Int32.ofInt (1)) :: st, h) := az_wp_iff
theorem az_s91_44 : az_p91 C Q (44, lv, st, h) ↔ az_p91 C Q (48, lv, st, h) := az_wp_iff
theorem az_s91_47 : az_p91 C Q (47, lv, st, h) ↔ az_p91 C Q (48, lv, .int (Int32.ofInt (0)) :: st, h) := az_wp_iff
theorem az_s91_48 {x : Int32} : az_p91 C Q (48, lv, [.int x], h) ↔ (x = 0 ∨ x = 1) ∧ Q (some (.int x)) h := az_wp_iff.trans az_go_if
def az_p92 (C : az_Cl) (Q : Option Value → az_H → Prop) : az_S → Prop := az_wp C (fun _ => none) none (az_fn az_k92) Q
theorem az_s92_0 : az_p92 C Q (0, lv, st, h) ↔ az_mi (lv 1) (fun x => az_p92 C Q (1, lv, .int x :: st, h)) := az_wp_iff.trans az_go_ldi
theorem az_s92_1 {x : Int32} : az_p92 C Q (1, lv, .int x :: st, h) ↔ (x < 0 → az_p92 C Q (25, lv, st, h)) ∧ (¬ x < 0 → az_p92 C Q (4, lv, st, h)) := az_wp_iff.trans (az_go_if1 az_d_eq)
theorem az_s92_4 : az_p92 C Q (4, lv, st, h) ↔ az_mi (lv 1) (fun x => az_p92 C Q (5, lv, .int x :: st, h)) := az_wp_iff.trans az_go_ldi
theorem az_s92_5 : az_p92 C Q (5, lv, st, h) ↔ az_ma (lv 0) (fun x => az_p92 C Q (6, lv, x :: st, h)) := az_wp_iff.trans az_go_lda
theorem az_s92_6 {a : Nat} : az_p92 C Q (6, lv, .ref a :: st, h) ↔ az_mf (h.1 a) 8 9 (fun v => az_p92 C Q (9, lv, v :: st, h)) := az_wp_iff.trans az_go_gf
theorem az_s92_9 {a : Nat} : az_p92 C Q (9, lv, .ref a :: st, h) ↔ az_mn (h.1 a) (fun x => az_p92 C Q (10, lv, .int x :: st, h)) := az_wp_iff.trans az_go_aln
theorem az_s92_10 {x y : Int32} : az_p92 C Q (10, lv, .int y :: .int x :: st, h) ↔ (y ≤ x → az_p92 C Q (25, lv, st, h)) ∧ (¬ y ≤ x → az_p92 C Q (13, lv, st, h)) := az_wp_iff.trans (az_go_if2 az_d_eq)
theorem az_s92_13 : az_p92 C Q (13, lv, st, h) ↔ az_ma (lv 0) (fun x => az_p92 C Q (14, lv, x :: st, h)) := az_wp_iff.trans az_go_lda
theorem az_s92_14 {a : Nat} : az_p92 C Q (14, lv, .ref a :: st, h) ↔ az_mf (h.1 a) 8 9 (fun v => az_p92 C Q (17, lv, v :: st, h)) := az_wp_iff.trans az_go_gf
theorem az_s92_17 : az_p92 C Q (17, lv, st, h) ↔ az_mi (lv 1) (fun x => az_p92 C Q (18, lv, .int x :: st, h)) := az_wp_iff.trans az_go_ldi
theorem az_s92_18 : az_p92 C Q (18, lv, st, h) ↔ az_mi (lv 2) (fun x => az_p92 C Q (19, lv, .int x :: st, h)) := az_wp_iff.trans az_go_ldi
theorem az_s92_19 {a : Nat} {i x : Int32} : az_p92 C Q (19, lv, .int x :: .int i :: .ref a :: st, h) ↔ az_mw' (h.1 a) i.toInt x (fun c => az_p92 C Q (20, lv, st, az_uh h a c)) := az_wp_iff.trans az_go_ias
theorem az_s92_20 : az_p92 C Q (20, lv, st, h) ↔ az_ma (lv 0) (fun x => az_p92 C Q (21, lv, x :: st, h)) := az_wp_iff.trans az_go_lda
theorem az_s92_21 : az_p92 C Q (21, lv, st, h) ↔ az_mi (lv 3) (fun x => az_p92 C Q (22, lv, .int x :: st, h)) := az_wp_iff.trans az_go_ldi
theorem az_s92_22 {a : Nat} {v : Value} : az_p92 C Q (22, lv, v :: .ref a :: st, h) ↔ az_mp (h.1 a) 8 10 0 v (fun c => az_p92 C Q (25, lv, st, az_uh h a c)) := az_wp_iff.trans az_go_pf
theorem az_s92_25 : az_p92 C Q (25, lv, [], h) ↔ Q none h := az_wp_iff
def az_p93 (C : az_Cl) (Q : Option Value → az_H → Prop) : az_S → Prop := az_wp C (fun _ => none) (some .int) (az_fn az_k93) Q
theorem az_s93_0 : az_p93 C Q (0, lv, st, h) ↔ az_mi (lv 1) (fun x => az_p93 C Q (1, lv, .int x :: st, h)) := az_wp_iff.trans az_go_ldi
theorem az_s93_1 {x : Int32} : az_p93 C Q (1, lv, .int x :: st, h) ↔ (x < 0 → az_p93 C Q (22, lv, st, h)) ∧ (¬ x < 0 → az_p93 C Q (4, lv, st, h)) := az_wp_iff.trans (az_go_if1 az_d_eq)
theorem az_s93_4 : az_p93 C Q (4, lv, st, h) ↔ az_mi (lv 1) (fun x => az_p93 C Q (5, lv, .int x :: st, h)) := az_wp_iff.trans az_go_ldi
theorem az_s93_5 : az_p93 C Q (5, lv, st, h) ↔ az_ma (lv 0) (fun x => az_p93 C Q (6, lv, x :: st, h)) := az_wp_iff.trans az_go_lda
theorem az_s93_6 {a : Nat} : az_p93 C Q (6, lv, .ref a :: st, h) ↔ az_mf (h.1 a) 8 9 (fun v => az_p93 C Q (9, lv, v :: st, h)) := az_wp_iff.trans az_go_gf
theorem az_s93_9 {a : Nat} : az_p93 C Q (9, lv, .ref a :: st, h) ↔ az_mn (h.1 a) (fun x => az_p93 C Q (10, lv, .int x :: st, h)) := az_wp_iff.trans az_go_aln
theorem az_s93_10 {x y : Int32} : az_p93 C Q (10, lv, .int y :: .int x :: st, h) ↔ (y ≤ x → az_p93 C Q (22, lv, st, h)) ∧ (¬ y ≤ x → az_p93 C Q (13, lv, st, h)) := az_wp_iff.trans (az_go_if2 az_d_eq)
theorem az_s93_13 : az_p93 C Q (13, lv, st, h) ↔ az_ma (lv 0) (fun x => az_p93 C Q (14, lv, x :: st, h)) := az_wp_iff.trans az_go_lda
theorem az_s93_14 {a : Nat} : az_p93 C Q (14, lv, .ref a :: st, h) ↔ az_mf (h.1 a) 8 9 (fun v => az_p93 C Q (17, lv, v :: st, h)) := az_wp_iff.trans az_go_gf
theorem az_s93_17 : az_p93 C Q (17, lv, st, h) ↔ az_mi (lv 1) (fun x => az_p93 C Q (18, lv, .int x :: st, h)) := az_wp_iff.trans az_go_ldi
theorem az_s93_18 {a : Nat} {i : Int32} : az_p93 C Q (18, lv, .int i :: .ref a :: st, h) ↔ az_mr (h.1 a) 0 i.toInt (fun x => az_p93 C Q (19, lv, .int x :: st, h)) := az_wp_iff.trans az_go_ial
theorem az_s93_19 : az_p93 C Q (19, lv, st, h) ↔ az_p93 C Q (23, lv, st, h) := az_wp_iff
theorem az_s93_22 : az_p93 C Q (22, lv, st, h) ↔ az_p93 C Q (23, lv, .int (Int32.ofInt (0)) :: st, h) := az_wp_iff
theorem az_s93_23 {x : Int32} : az_p93 C Q (23, lv, .int x :: st, h) ↔ az_p93 C Q (24, (az_s1 lv 2 (.int x)), st, h) := az_wp_iff
theorem az_s93_24 : az_p93 C Q (24, lv, st, h) ↔ az_mi (lv 2) (fun x => az_p93 C Q (25, lv, .int x :: st, h)) := az_wp_iff.trans az_go_ldi
theorem az_s93_25 : az_p93 C Q (25, lv, st, h) ↔ az_p93 C Q (26, lv, .int (Int32.ofInt (1)) :: st, h) := az_wp_iff
theorem az_s93_26 {x y : Int32} : az_p93 C Q (26, lv, .int y :: .int x :: st, h) ↔ (¬ x = y → az_p93 C Q (49, lv, st, h)) ∧ (¬ ¬ x = y → az_p93 C Q (29, lv, st, h)) := az_wp_iff.trans (az_go_if2 az_d_eq)
theorem az_s93_29 : az_p93 C Q (29, lv, st, h) ↔ az_ma (lv 0) (fun x => az_p93 C Q (30, lv, x :: st, h)) := az_wp_iff.trans az_go_lda
theorem az_s93_30 {a : Nat} : az_p93 C Q (30, lv, .ref a :: st, h) ↔ az_mf (h.1 a) 8 1 (fun v => az_p93 C Q (33, lv, v :: st, h)) := az_wp_iff.trans az_go_gf
theorem az_s93_33 : az_p93 C Q (33, lv, st, h) ↔ az_p93 C Q (34, lv, .int (Int32.ofInt (5)) :: st, h) := az_wp_iff
theorem az_s93_34 {x y : Int32} : az_p93 C Q (34, lv, .int y :: .int x :: st, h) ↔ (x = y → az_p93 C Q (45, lv, st, h)) ∧ (¬ x = y → az_p93 C Q (37, lv, st, h)) := az_wp_iff.trans (az_go_if2 az_d_eq)
theorem az_s93_37 : az_p93 C Q (37, lv, st, h) ↔ az_ma (lv 0) (fun x => az_p93 C Q (38, lv, x :: st, h)) := az_wp_iff.trans az_go_lda
theorem az_s93_38 {a : Nat} : az_p93 C Q (38, lv, .ref a :: st, h) ↔ az_mf (h.1 a) 8 1 (fun v => az_p93 C Q (41, lv, v :: st, h)) := az_wp_iff.trans az_go_gf
theorem az_s93_41 : az_p93 C Q (41, lv, st, h) ↔ az_p93 C Q (42, lv, .int (Int32.ofInt (4)) :: st, h) := az_wp_iff
theorem az_s93_42 {x y : Int32} : az_p93 C Q (42, lv, .int y :: .int x :: st, h) ↔ (¬ x = y → az_p93 C Q (49, lv, st, h)) ∧ (¬ ¬ x = y → az_p93 C Q (45, lv, st, h)) := az_wp_iff.trans (az_go_if2 az_d_eq)
theorem az_s93_45 : az_p93 C Q (45, lv, st, h) ↔ az_p93 C Q (46, lv, .int (Int32.ofInt (0)) :: st, h) := az_wp_iff
theorem az_s93_46 : az_p93 C Q (46, lv, st, h) ↔ az_p93 C Q (50, lv, st, h) := az_wp_iff
theorem az_s93_49 : az_p93 C Q (49, lv, st, h) ↔ az_mi (lv 2) (fun x => az_p93 C Q (50, lv, .int x :: st, h)) := az_wp_iff.trans az_go_ldi
theorem az_s93_50 {x : Int32} : az_p93 C Q (50, lv, [.int x], h) ↔ Q (some (.int x)) h := az_wp_iff
def az_p94 (C : az_Cl) (Q : Option Value → az_H → Prop) : az_S → Prop := az_wp C (fun _ => none) (some .int) (az_fn az_k94) Q
theorem az_s94_0 : az_p94 C Q (0, lv, st, h) ↔ az_p94 C Q (1, lv, .int (Int32.ofInt (0)) :: st, h) := az_wp_iff
theorem az_s94_1 {x : Int32} : az_p94 C Q (1, lv, .int x :: st, h) ↔ az_p94 C Q (2, (az_s1 lv 2 (.int x)), st, h) := az_wp_iff
theorem az_s94_2 : az_p94 C Q (2, lv, st, h) ↔ az_p94 C Q (3, lv, .int (Int32.ofInt (0)) :: st, h) := az_wp_iff
theorem az_s94_3 {x : Int32} : az_p94 C Q (3, lv, .int x :: st, h) ↔ az_p94 C Q (4, (az_s1 lv 3 (.int x)), st, h) := az_wp_iff
theorem az_s94_4 : az_p94 C Q (4, lv, st, h) ↔ az_mi (lv 3) (fun x => az_p94 C Q (5, lv, .int x :: st, h)) := az_wp_iff.trans az_go_ldi
theorem az_s94_5 : az_p94 C Q (5, lv, st, h) ↔ az_ma (lv 0) (fun x => az_p94 C Q (6, lv, x :: st, h)) := az_wp_iff.trans az_go_lda
theorem az_s94_6 {a : Nat} : az_p94 C Q (6, lv, .ref a :: st, h) ↔ az_mf (h.1 a) 8 8 (fun v => az_p94 C Q (9, lv, v :: st, h)) := az_wp_iff.trans az_go_gf
theorem az_s94_9 {x y : Int32} : az_p94 C Q (9, lv, .int y :: .int x :: st, h) ↔ (y ≤ x → az_p94 C Q (46, lv, st, h)) ∧ (¬ y ≤ x → az_p94 C Q (12, lv, st, h)) := az_wp_iff.trans (az_go_if2 az_d_eq)
theorem az_s94_12 : az_p94 C Q (12, lv, st, h) ↔ az_mi (lv 2) (fun x => az_p94 C Q (13, lv, .int x :: st, h)) := az_wp_iff.trans az_go_ldi
theorem az_s94_13 : az_p94 C Q (13, lv, st, h) ↔ az_ma (lv 0) (fun x => az_p94 C Q (14, lv, x :: st, h)) := az_wp_iff.trans az_go_lda
theorem az_s94_14 : az_p94 C Q (14, lv, st, h) ↔ az_mi (lv 3) (fun x => az_p94 C Q (15, lv, .int x :: st, h)) := az_wp_iff.trans az_go_ldi
theorem az_s94_15 {a : Nat} {v1 : Value} : az_p94 C Q (15, lv, v1 :: .ref a :: st, h) ↔ az_isob (h.1 a) 8 = true ∧ az_cat st ≤ 8 ∧ az_mc C 86 [.ref a, v1] h (fun v h' => az_p94 C Q (18, lv, v ++ st, h')) := az_wp_iff.trans (az_go_if.trans (and_congr Iff.rfl az_go_call))
theorem az_s94_18 : az_p94 C Q (18, lv, st, h) ↔ az_mi (lv 1) (fun x => az_p94 C Q (19, lv, .int x :: st, h)) := az_wp_iff.trans az_go_ldi
theorem az_s94_19 {x y : Int32} : az_p94 C Q (19, lv, .int y :: .int x :: st, h) ↔ (¬ x = y → az_p94 C Q (37, lv, st, h)) ∧ (¬ ¬ x = y → az_p94 C Q (22, lv, st, h)) := az_wp_iff.trans (az_go_if2 az_d_eq)
theorem az_s94_22 : az_p94 C Q (22, lv, st, h) ↔ az_ma (lv 0) (fun x => az_p94 C Q (23, lv, x :: st, h)) := az_wp_iff.trans az_go_lda
theorem az_s94_23 {a : Nat} : az_p94 C Q (23, lv, .ref a :: st, h) ↔ az_mf (h.1 a) 8 18 (fun v => az_p94 C Q (26, lv, v :: st, h)) := az_wp_iff.trans az_go_gf
theorem az_s94_26 : az_p94 C Q (26, lv, st, h) ↔ az_mi (lv 3) (fun x => az_p94 C Q (27, lv, .int x :: st, h)) := az_wp_iff.trans az_go_ldi
theorem az_s94_27 {a : Nat} {v1 : Value} : az_p94 C Q (27, lv, v1 :: .ref a :: st, h) ↔ az_isob (h.1 a) 4 = true ∧ az_cat st ≤ 8 ∧ az_mc C 34 [.ref a, v1] h (fun v h' => az_p94 C Q (30, lv, v ++ st, h')) := az_wp_iff.trans (az_go_if.trans (and_congr Iff.rfl az_go_call))
theorem az_s94_30 {x : Int32} : az_p94 C Q (30, lv, .int x :: st, h) ↔ (x = 0 → az_p94 C Q (37, lv, st, h)) ∧ (¬ x = 0 → az_p94 C Q (33, lv, st, h)) := az_wp_iff.trans (az_go_if1 az_d_eq)
theorem az_s94_33 : az_p94 C Q (33, lv, st, h) ↔ az_p94 C Q (34, lv, .int (Int32.ofInt (1)) :: st, h) := az_wp_iff
theorem az_s94_34 : az_p94 C Q (34, lv, st, h) ↔ az_p94 C Q (38, lv, st, h) := az_wp_iff
theorem az_s94_37 : az_p94 C Q (37, lv, st, h) ↔ az_p94 C Q (38, lv, .int (Int32.ofInt (0)) :: st, h) := az_wp_iff
theorem az_s94_38 {x y : Int32} : az_p94 C Q (38, lv, .int y :: .int x :: st, h) ↔ az_p94 C Q (39, lv, .int (x + y) :: st, h) := az_wp_iff
theorem az_s94_39 {x : Int32} : az_p94 C Q (39, lv, .int x :: st, h) ↔ az_p94 C Q (40, (az_s1 lv 2 (.int x)), st, h) := az_wp_iff
theorem az_s94_40 : az_p94 C Q (40, lv, st, h) ↔ az_mi (lv 3) (fun x => az_p94 C Q (43, (az_s1 lv 3 (.int (x + Int32.ofInt (1)))), st, h)) := az_wp_iff.trans az_go_inc
theorem az_s94_43 : az_p94 C Q (43, lv, st, h) ↔ az_p94 C Q (4, lv, st, h) := az_wp_iff
theorem az_s94_46 : az_p94 C Q (46, lv, st, h) ↔ az_mi (lv 2) (fun x => az_p94 C Q (47, lv, .int x :: st, h)) := az_wp_iff.trans az_go_ldi
theorem az_s94_47 {x : Int32} : az_p94 C Q (47, lv, [.int x], h) ↔ Q (some (.int x)) h := az_wp_iff
def az_p95 (C : az_Cl) (Q : Option Value → az_H → Prop) : az_S → Prop := az_wp C (fun _ => none) (some .boolean) (az_fn az_k95) Q
theorem az_s95_0 : az_p95 C Q (0, lv, st, h) ↔ az_ma (lv 0) (fun x => az_p95 C Q (1, lv, x :: st, h)) := az_wp_iff.trans az_go_lda
theorem az_s95_1 {a : Nat} : az_p95 C Q (1, lv, .ref a :: st, h) ↔ az_mf (h.1 a) 8 11 (fun v => az_p95 C Q (4, lv, v :: st, h)) := az_wp_iff.trans az_go_gf
theorem az_s95_4 : az_p95 C Q (4, lv, st, h) ↔ az_p95 C Q (5, lv, .int (Int32.ofInt (1)) :: st, h) := az_wp_iff
theorem az_s95_5 {x y : Int32} : az_p95 C Q (5, lv, .int y :: .int x :: st, h) ↔ (x = y → az_p95 C Q (18, lv, st, h)) ∧ (¬ x = y → az_p95 C Q (8, lv, st, h)) := az_wp_iff.trans (az_go_if2 az_d_eq)
theorem az_s95_8 : az_p95 C Q (8, lv, st, h) ↔ az_ma (lv 0) (fun x => az_p95 C Q (9, lv, x :: st, h)) := az_wp_iff.trans az_go_lda
theorem az_s95_9 {a : Nat} : az_p95 C Q (9, lv, .ref a :: st, h) ↔ az_mf (h.1 a) 8 11 (fun v => az_p95 C Q (12, lv, v :: st, h)) := az_wp_iff.trans az_go_gf
theorem az_s95_12 : az_p95 C Q (12, lv, st, h) ↔ az_p95 C Q (13, lv, .int (Int32.ofInt (3)) :: st, h) := az_wp_iff
theorem az_s95_13 {x y : Int32} : az_p95 C Q (13, lv, .int y :: .int x :: st, h) ↔ (x = y → az_p95 C Q (18, lv, st, h)) ∧ (¬ x = y → az_p95 C Q (16, lv, st, h)) := az_wp_iff.trans (az_go_if2 az_d_eq)
theorem az_s95_16 : az_p95 C Q (16, lv, st, h) ↔ az_p95 C Q (17, lv, .int (Int32.ofInt (0)) :: st, h) := az_wp_iff
theorem az_s95_17 {x : Int32} : az_p95 C Q (17, lv, [.int x], h) ↔ (x = 0 ∨ x = 1) ∧ Q (some (.int x)) h := az_wp_iff.trans az_go_if
theorem az_s95_18 : az_p95 C Q (18, lv, st, h) ↔ az_ma (lv 0) (fun x => az_p95 C Q (19, lv, x :: st, h)) := az_wp_iff.trans az_go_lda
theorem az_s95_19 {x : Int32} : az_p95 C Q (19, lv, .int x :: st, h) ↔ az_p95 C Q (20, lv, .int x :: .int x :: st, h) := az_wp_iff
theorem az_s95_19r {x : Nat} : az_p95 C Q (19, lv, .ref x :: st, h) ↔ az_p95 C Q (20, lv, .ref x :: .ref x :: st, h) := az_wp_iff
theorem az_s95_20 {a : Nat} : az_p95 C Q (20, lv, .ref a :: st, h) ↔ az_mf (h.1 a) 8 12 (fun v => az_p95 C Q (23, lv, v :: st, h)) := az_wp_iff.trans az_go_gf
theorem az_s95_23 : az_p95 C Q (23, lv, st, h) ↔ az_p95 C Q (24, lv, .int (Int32.ofInt (1)) :: st, h) := az_wp_iff
theorem az_s95_24 {x y : Int32} : az_p95 C Q (24, lv, .int y :: .int x :: st, h) ↔ az_p95 C Q (25, lv, .int (x - y) :: st, h) := az_wp_iff
theorem az_s95_25 {a : Nat} {v : Value} : az_p95 C Q (25, lv, v :: .ref a :: st, h) ↔ az_mp (h.1 a) 8 12 0 v (fun c => az_p95 C Q (28, lv, st, az_uh h a c)) := az_wp_iff.trans az_go_pf
theorem az_s95_28 : az_p95 C Q (28, lv, st, h) ↔ az_ma (lv 0) (fun x => az_p95 C Q (29, lv, x :: st, h)) := az_wp_iff.trans az_go_lda
theorem az_s95_29 {a : Nat} : az_p95 C Q (29, lv, .ref a :: st, h) ↔ az_mf (h.1 a) 8 12 (fun v => az_p95 C Q (32, lv, v :: st, h)) := az_wp_iff.trans az_go_gf
theorem az_s95_32 {x : Int32} : az_p95 C Q (32, lv, .int x :: st, h) ↔ (x ≤ 0 → az_p95 C Q (37, lv, st, h)) ∧ (¬ x ≤ 0 → az_p95 C Q (35, lv, st, h)) := az_wp_iff.trans (az_go_if1 az_d_eq)
theorem az_s95_35 : az_p95 C Q (35, lv, st, h) ↔ az_p95 C Q (36, lv, .int (Int32.ofInt (0)) :: st, h) := az_wp_iff
theorem az_s95_36 {x : Int32} : az_p95 C Q (36, lv, [.int x], h) ↔ (x = 0 ∨ x = 1) ∧ Q (some (.int x)) h := az_wp_iff.trans az_go_if
theorem az_s95_37 : az_p95 C Q (37, lv, st, h) ↔ az_ma (lv 0) (fun x => az_p95 C Q (38, lv, x :: st, h)) := az_wp_iff.trans az_go_lda
theorem az_s95_38 {a : Nat} : az_p95 C Q (38, lv, .ref a :: st, h) ↔ az_mf (h.1 a) 8 11 (fun v => az_p95 C Q (41, lv, v :: st, h)) := az_wp_iff.trans az_go_gf
theorem az_s95_41 : az_p95 C Q (41, lv, st, h) ↔ az_p95 C Q (42, lv, .int (Int32.ofInt (1)) :: st, h) := az_wp_iff
theorem az_s95_42 {x y : Int32} : az_p95 C Q (42, lv, .int y :: .int x :: st, h) ↔ (¬ x = y → az_p95 C Q (47, lv, st, h)) ∧ (¬ ¬ x = y → az_p95 C Q (45, lv, st, h)) := az_wp_iff.trans (az_go_if2 az_d_eq)
theorem az_s95_45 : az_p95 C Q (45, lv, st, h) ↔ az_p95 C Q (46, lv, .int (Int32.ofInt (1)) :: st, h) := az_wp_iff
theorem az_s95_46 {x : Int32} : az_p95 C Q (46, lv, [.int x], h) ↔ (x = 0 ∨ x = 1) ∧ Q (some (.int x)) h := az_wp_iff.trans az_go_if
theorem az_s95_47 : az_p95 C Q (47, lv, st, h) ↔ az_ma (lv 0) (fun x => az_p95 C Q (48, lv, x :: st, h)) := az_wp_iff.trans az_go_lda
theorem az_s95_48 : az_p95 C Q (48, lv, st, h) ↔ az_p95 C Q (49, lv, .int (Int32.ofInt (0)) :: st, h) := az_wp_iff
theorem az_s95_49 {a : Nat} {v : Value} : az_p95 C Q (49, lv, v :: .ref a :: st, h) ↔ az_mp (h.1 a) 8 11 0 v (fun c => az_p95 C Q (52, lv, st, az_uh h a c)) := az_wp_iff.trans az_go_pf
theorem az_s95_52 : az_p95 C Q (52, lv, st, h) ↔ az_p95 C Q (53, lv, .int (Int32.ofInt (0)) :: st, h) := az_wp_iff
theorem az_s95_53 {x : Int32} : az_p95 C Q (53, lv, [.int x], h) ↔ (x = 0 ∨ x = 1) ∧ Q (some (.int x)) h := az_wp_iff.trans az_go_if
def az_p96 (C : az_Cl) (Q : Option Value → az_H → Prop) : az_S → Prop := az_wp C (fun _ => none) none (az_fn az_k96) Q
theorem az_s96_0 : az_p96 C Q (0, lv, st, h) ↔ az_ma (lv 0) (fun x => az_p96 C Q (1, lv, x :: st, h)) := az_wp_iff.trans az_go_lda
theorem az_s96_1 : az_p96 C Q (1, lv, st, h) ↔ az_mi (lv 1) (fun x => az_p96 C Q (2, lv, .int x :: st, h)) := az_wp_iff.trans az_go_ldi
theorem az_s96_2 {a : Nat} {v : Value} : az_p96 C Q (2, lv, v :: .ref a :: st, h) ↔ az_mp (h.1 a) 8 11 0 v (fun c => az_p96 C Q (5, lv, st, az_uh h a c)) := az_wp_iff.trans az_go_pf
theorem az_s96_5 : az_p96 C Q (5, lv, st, h) ↔ az_ma (lv 0) (fun x => az_p96 C Q (6, lv, x :: st, h)) := az_wp_iff.trans az_go_lda
theorem az_s96_6 : az_p96 C Q (6, lv, st, h) ↔ az_mi (lv 2) (fun x => az_p96 C Q (7, lv, .int x :: st, h)) := az_wp_iff.trans az_go_ldi
theorem az_s96_7 {a : Nat} {v : Value} : az_p96 C Q (7, lv, v :: .ref a :: st, h) ↔ az_mp (h.1 a) 8 12 0 v (fun c => az_p96 C Q (10, lv, st, az_uh h a c)) := az_wp_iff.trans az_go_pf
theorem az_s96_10 : az_p96 C Q (10, lv, [], h) ↔ Q none h := az_wp_iff
def az_p97 (C : az_Cl) (Q : Option Value → az_H → Prop) : az_S → Prop := az_wp C (fun _ => none) (some .int) (az_fn az_k97) Q
theorem az_s97_0 : az_p97 C Q (0, lv, st, h) ↔ az_mi (lv 1) (fun x => az_p97 C Q (1, lv, .int x :: st, h)) := az_wp_iff.trans az_go_ldi
theorem az_s97_1 {x : Int32} : az_p97 C Q (1, lv, .int x :: st, h) ↔ (x < 0 → az_p97 C Q (22, lv, st, h)) ∧ (¬ x < 0 → az_p97 C Q (4, lv, st, h)) := az_wp_iff.trans (az_go_if1 az_d_eq)
theorem az_s97_4 : az_p97 C Q (4, lv, st, h) ↔ az_mi (lv 1) (fun x => az_p97 C Q (5, lv, .int x :: st, h)) := az_wp_iff.trans az_go_ldi
theorem az_s97_5 : az_p97 C Q (5, lv, st, h) ↔ az_ma (lv 0) (fun x => az_p97 C Q (6, lv, x :: st, h)) := az_wp_iff.trans az_go_lda
theorem az_s97_6 {a : Nat} : az_p97 C Q (6, lv, .ref a :: st, h) ↔ az_mf (h.1 a) 8 19 (fun v => az_p97 C Q (9, lv, v :: st, h)) := az_wp_iff.trans az_go_gf
theorem az_s97_9 {a : Nat} : az_p97 C Q (9, lv, .ref a :: st, h) ↔ az_mn (h.1 a) (fun x => az_p97 C Q (10, lv, .int x :: st, h)) := az_wp_iff.trans az_go_aln
theorem az_s97_10 {x y : Int32} : az_p97 C Q (10, lv, .int y :: .int x :: st, h) ↔ (y ≤ x → az_p97 C Q (22, lv, st, h)) ∧ (¬ y ≤ x → az_p97 C Q (13, lv, st, h)) := az_wp_iff.trans (az_go_if2 az_d_eq)
theorem az_s97_13 : az_p97 C Q (13, lv, st, h) ↔ az_ma (lv 0) (fun x => az_p97 C Q (14, lv, x :: st, h)) := az_wp_iff.trans az_go_lda
theorem az_s97_14 {a : Nat} : az_p97 C Q (14, lv, .ref a :: st, h) ↔ az_mf (h.1 a) 8 19 (fun v => az_p97 C Q (17, lv, v :: st, h)) := az_wp_iff.trans az_go_gf
theorem az_s97_17 : az_p97 C Q (17, lv, st, h) ↔ az_mi (lv 1) (fun x => az_p97 C Q (18, lv, .int x :: st, h)) := az_wp_iff.trans az_go_ldi
theorem az_s97_18 {a : Nat} {i : Int32} : az_p97 C Q (18, lv, .int i :: .ref a :: st, h) ↔ az_mr (h.1 a) 0 i.toInt (fun x => az_p97 C Q (19, lv, .int x :: st, h)) := az_wp_iff.trans az_go_ial
theorem az_s97_19 : az_p97 C Q (19, lv, st, h) ↔ az_p97 C Q (23, lv, st, h) := az_wp_iff
theorem az_s97_22 : az_p97 C Q (22, lv, st, h) ↔ az_p97 C Q (23, lv, .int (Int32.ofInt (0)) :: st, h) := az_wp_iff
theorem az_s97_23 {x : Int32} : az_p97 C Q (23, lv, [.int x], h) ↔ Q (some (.int x)) h := az_wp_iff
def az_p98 (C : az_Cl) (Q : Option Value → az_H → Prop) : az_S → Prop := az_wp C (fun _ => none) none (az_fn az_k98) Q
theorem az_s98_0 : az_p98 C Q (0, lv, st, h) ↔ az_mi (lv 1) (fun x => az_p98 C Q (1, lv, .int x :: st, h)) := az_wp_iff.trans az_go_ldi
theorem az_s98_1 {x : Int32} : az_p98 C Q (1, lv, .int x :: st, h) ↔ (x < 0 → az_p98 C Q (21, lv, st, h)) ∧ (¬ x < 0 → az_p98 C Q (4, lv, st, h)) := az_wp_iff.trans (az_go_if1 az_d_eq)
theorem az_s98_4 : az_p98 C Q (4, lv, st, h) ↔ az_mi (lv 1) (fun x => az_p98 C Q (5, lv, .int x :: st, h)) := az_wp_iff.trans az_go_ldi
theorem az_s98_5 : az_p98 C Q (5, lv, st, h) ↔ az_ma (lv 0) (fun x => az_p98 C Q (6, lv, x :: st, h)) := az_wp_iff.trans az_go_lda
theorem az_s98_6 {a : Nat} : az_p98 C Q (6, lv, .ref a :: st, h) ↔ az_mf (h.1 a) 8 19 (fun v => az_p98 C Q (9, lv, v :: st, h)) := az_wp_iff.trans az_go_gf
theorem az_s98_9 {a : Nat} : az_p98 C Q (9, lv, .ref a :: st, h) ↔ az_mn (h.1 a) (fun x => az_p98 C Q (10, lv, .int x :: st, h)) := az_wp_iff.trans az_go_aln
theorem az_s98_10 {x y : Int32} : az_p98 C Q (10, lv, .int y :: .int x :: st, h) ↔ (y ≤ x → az_p98 C Q (21, lv, st, h)) ∧ (¬ y ≤ x → az_p98 C Q (13, lv, st, h)) := az_wp_iff.trans (az_go_if2 az_d_eq)
theorem az_s98_13 : az_p98 C Q (13, lv, st, h) ↔ az_ma (lv 0) (fun x => az_p98 C Q (14, lv, x :: st, h)) := az_wp_iff.trans az_go_lda
theorem az_s98_14 {a : Nat} : az_p98 C Q (14, lv, .ref a :: st, h) ↔ az_mf (h.1 a) 8 19 (fun v => az_p98 C Q (17, lv, v :: st, h)) := az_wp_iff.trans az_go_gf
theorem az_s98_17 : az_p98 C Q (17, lv, st, h) ↔ az_mi (lv 1) (fun x => az_p98 C Q (18, lv, .int x :: st, h)) := az_wp_iff.trans az_go_ldi
theorem az_s98_18 : az_p98 C Q (18, lv, st, h) ↔ az_ml (lv 2) (fun x => az_p98 C Q (19, lv, .long x :: st, h)) := az_wp_iff.trans az_go_ldl
theorem az_s98_19 {x : Int64} : az_p98 C Q (19, lv, .long x :: st, h) ↔ az_p98 C Q (20, lv, .int x.toInt32 :: st, h) := az_wp_iff
theorem az_s98_20 {a : Nat} {i x : Int32} : az_p98 C Q (20, lv, .int x :: .int i :: .ref a :: st, h) ↔ az_mw' (h.1 a) i.toInt x (fun c => az_p98 C Q (21, lv, st, az_uh h a c)) := az_wp_iff.trans az_go_ias
theorem az_s98_21 : az_p98 C Q (21, lv, [], h) ↔ Q none h := az_wp_iff
def az_p99 (C : az_Cl) (Q : Option Value → az_H → Prop) : az_S → Prop := az_wp C (fun _ => none) (some .long) (az_fn az_k99) Q
theorem az_s99_0 : az_p99 C Q (0, lv, st, h) ↔ az_ma (lv 0) (fun x => az_p99 C Q (1, lv, x :: st, h)) := az_wp_iff.trans az_go_lda
theorem az_s99_1 {a : Nat} : az_p99 C Q (1, lv, .ref a :: st, h) ↔ az_mf (h.1 a) 8 18 (fun v => az_p99 C Q (4, lv, v :: st, h)) := az_wp_iff.trans az_go_gf
theorem az_s99_4 : az_p99 C Q (4, lv, st, h) ↔ az_ma (lv 1) (fun x => az_p99 C Q (5, lv, x :: st, h)) := az_wp_iff.trans az_go_lda
theorem az_s99_5 {a : Nat} {v1 : Value} : az_p99 C Q (5, lv, v1 :: .ref a :: st, h) ↔ az_isob (h.1 a) 4 = true ∧ az_cat st ≤ 8 ∧ az_mc C 36 [.ref a, v1] h (fun v h' => az_p99 C Q (8, lv, v ++ st, h')) := az_wp_iff.trans (az_go_if.trans (and_congr Iff.rfl az_go_call))
theorem az_s99_8 {x : Int64} : az_p99 C Q (8, lv, .long x :: st, h) ↔ az_p99 C Q (9, (az_s2 lv 2 (.long x)), st, h) := az_wp_iff
theorem az_s99_9 : az_p99 C Q (9, lv, st, h) ↔ az_p99 C Q (10, lv, .int (Int32.ofInt (0)) :: st, h) := az_wp_iff
theorem az_s99_10 {x : Int32} : az_p99 C Q (10, lv, .int x :: st, h) ↔ az_p99 C Q (12, (az_s1 lv 4 (.int x)), st, h) := az_wp_iff
theorem az_s99_12 : az_p99 C Q (12, lv, st, h) ↔ az_mi (lv 4) (fun x => az_p99 C Q (14, lv, .int x :: st, h)) := az_wp_iff.trans az_go_ldi
theorem az_s99_14 : az_p99 C Q (14, lv, st, h) ↔ az_p99 C Q (16, lv, .int (Int32.ofInt (10)) :: st, h) := az_wp_iff
theorem az_s99_16 {x y : Int32} : az_p99 C Q (16, lv, .int y :: .int x :: st, h) ↔ (y ≤ x → az_p99 C Q (35, lv, st, h)) ∧ (¬ y ≤ x → az_p99 C Q (19, lv, st, h)) := az_wp_iff.trans (az_go_if2 az_d_eq)
theorem az_s99_19 : az_p99 C Q (19, lv, st, h) ↔ az_ml (lv 2) (fun x => az_p99 C Q (20, lv, .long x :: st, h)) := az_wp_iff.trans az_go_ldl
theorem az_s99_20 : az_p99 C Q (20, lv, st, h) ↔ az_ma (lv 0) (fun x => az_p99 C Q (21, lv, x :: st, h)) := az_wp_iff.trans az_go_lda
theorem az_s99_21 : az_p99 C Q (21, lv, st, h) ↔ az_mi (lv 4) (fun x => az_p99 C Q (23, lv, .int x :: st, h)) := az_wp_iff.trans az_go_ldi
theorem az_s99_23 {a : Nat} {v1 : Value} : az_p99 C Q (23, lv, v1 :: .ref a :: st, h) ↔ az_isob (h.1 a) 8 = true ∧ az_cat st ≤ 8 ∧ az_mc C 97 [.ref a, v1] h (fun v h' => az_p99 C Q (26, lv, v ++ st, h')) := az_wp_iff.trans (az_go_if.trans (and_congr Iff.rfl az_go_call))
theorem az_s99_26 {x : Int32} : az_p99 C Q (26, lv, .int x :: st, h) ↔ az_p99 C Q (27, lv, .long x.toInt64 :: st, h) := az_wp_iff
theorem az_s99_27 {x y : Int64} : az_p99 C Q (27, lv, .long y :: .long x :: st, h) ↔ az_p99 C Q (28, lv, .long (x + y) :: st, h) := az_wp_iff
theorem az_s99_28 {x : Int64} : az_p99 C Q (28, lv, .long x :: st, h) ↔ az_p99 C Q (29, (az_s2 lv 2 (.long x)), st, h) := az_wp_iff
theorem az_s99_29 : az_p99 C Q (29, lv, st, h) ↔ az_mi (lv 4) (fun x => az_p99 C Q (32, (az_s1 lv 4 (.int (x + Int32.ofInt (1)))), st, h)) := az_wp_iff.trans az_go_inc
theorem az_s99_32 : az_p99 C Q (32, lv, st, h) ↔ az_p99 C Q (12, lv, st, h) := az_wp_iff
theorem az_s99_35 : az_p99 C Q (35, lv, st, h) ↔ az_ml (lv 2) (fun x => az_p99 C Q (36, lv, .long x :: st, h)) := az_wp_iff.trans az_go_ldl
theorem az_s99_36 {x : Int64} : az_p99 C Q (36, lv, [.long x], h) ↔ Q (some (.long x)) h := az_wp_iff
def az_p100 (C : az_Cl) (Q : Option Value → az_H → Prop) : az_S → Prop := az_wp C (fun _ => none) none (az_fn az_k100) Q
theorem az_s100_0 : az_p100 C Q (0, lv, st, h) ↔ az_ma (lv 0) (fun x => az_p100 C Q (1, lv, x :: st, h)) := az_wp_iff.trans az_go_lda
theorem az_s100_1 {a : Nat} : az_p100 C Q (1, lv, .ref a :: st, h) ↔ az_mf (h.1 a) 8 11 (fun v => az_p100 C Q (4, lv, v :: st, h)) := az_wp_iff.trans az_go_gf
theorem az_s100_4 {x : Int32} : az_p100 C Q (4, lv, .int x :: st, h) ↔ (¬ x = 0 → az_p100 C Q (20, lv, st, h)) ∧ (¬ ¬ x = 0 → az_p100 C Q (7, lv, st, h)) := az_wp_iff.trans (az_go_if1 az_d_eq)
theorem az_s100_7 : az_p100 C Q (7, lv, st, h) ↔ az_ma (lv 0) (fun x => az_p100 C Q (8, lv, x :: st, h)) := az_wp_iff.trans az_go_lda
theorem az_s100_8 {x : Int32} : az_p100 C Q (8, lv, .int x :: st, h) ↔ az_p100 C Q (9, lv, .int x :: .int x :: st, h) := az_wp_iff
theorem az_s100_8r {x : Nat} : az_p100 C Q (8, lv, .ref x :: st, h) ↔ az_p100 C Q (9, lv, .ref x :: .ref x :: st, h) := az_wp_iff
theorem az_s100_9 {a : Nat} : az_p100 C Q (9, lv, .ref a :: st, h) ↔ az_mf (h.1 a) 8 15 (fun v => az_p100 C Q (12, lv, v :: st, h)) := az_wp_iff.trans az_go_gf
theorem az_s100_12 : az_p100 C Q (12, lv, st, h) ↔ az_p100 C Q (13, lv, .int (Int32.ofInt (1)) :: st, h) := az_wp_iff
theorem az_s100_13 {x y : Int32} : az_p100 C Q (13, lv, .int y :: .int x :: st, h) ↔ az_p100 C Q (14, lv, .int (x + y) :: st, h) := az_wp_iff
theorem az_s100_14 {a : Nat} {v : Value} : az_p100 C Q (14, lv, v :: .ref a :: st, h) ↔ az_mp (h.1 a) 8 15 0 v (fun c => az_p100 C Q (17, lv, st, az_uh h a c)) := az_wp_iff.trans az_go_pf
theorem az_s100_17 : az_p100 C Q (17, lv, st, h) ↔ az_p100 C Q (59, lv, st, h) := az_wp_iff
theorem az_s100_20 : az_p100 C Q (20, lv, st, h) ↔ az_ma (lv 0) (fun x => az_p100 C Q (21, lv, x :: st, h)) := az_wp_iff.trans az_go_lda
theorem az_s100_21 {a : Nat} : az_p100 C Q (21, lv, .ref a :: st, h) ↔ az_mf (h.1 a) 8 11 (fun v => az_p100 C Q (24, lv, v :: st, h)) := az_wp_iff.trans az_go_gf
theorem az_s100_24 : az_p100 C Q (24, lv, st, h) ↔ az_p100 C Q (25, lv, .int (Int32.ofInt (2)) :: st, h) := az_wp_iff
theorem az_s100_25 {x y : Int32} : az_p100 C Q (25, lv, .int y :: .int x :: st, h) ↔ (¬ x = y → az_p100 C Q (41, lv, st, h)) ∧ (¬ ¬ x = y → az_p100 C Q (28, lv, st, h)) := az_wp_iff.trans (az_go_if2 az_d_eq)
theorem az_s100_28 : az_p100 C Q (28, lv, st, h) ↔ az_ma (lv 0) (fun x => az_p100 C Q (29, lv, x :: st, h)) := az_wp_iff.trans az_go_lda
theorem az_s100_29 {x : Int32} : az_p100 C Q (29, lv, .int x :: st, h) ↔ az_p100 C Q (30, lv, .int x :: .int x :: st, h) := az_wp_iff
theorem az_s100_29r {x : Nat} : az_p100 C Q (29, lv, .ref x :: st, h) ↔ az_p100 C Q (30, lv, .ref x :: .ref x :: st, h) := az_wp_iff
theorem az_s100_30 {a : Nat} : az_p100 C Q (30, lv, .ref a :: st, h) ↔ az_mf (h.1 a) 8 16 (fun v => az_p100 C Q (33, lv, v :: st, h)) := az_wp_iff.trans az_go_gf
theorem az_s100_33 : az_p100 C Q (33, lv, st, h) ↔ az_p100 C Q (34, lv, .int (Int32.ofInt (1)) :: st, h) := az_wp_iff
theorem az_s100_34 {x y : Int32} : az_p100 C Q (34, lv, .int y :: .int x :: st, h) ↔ az_p100 C Q (35, lv, .int (x + y) :: st, h) := az_wp_iff
theorem az_s100_35 {a : Nat} {v : Value} : az_p100 C Q (35, lv, v :: .ref a :: st, h) ↔ az_mp (h.1 a) 8 16 0 v (fun c => az_p100 C Q (38, lv, st, az_uh h a c)) := az_wp_iff.trans az_go_pf
theorem az_s100_38 : az_p100 C Q (38, lv, st, h) ↔ az_p100 C Q (59, lv, st, h) := az_wp_iff
theorem az_s100_41 : az_p100 C Q (41, lv, st, h) ↔ az_ma (lv 0) (fun x => az_p100 C Q (42, lv, x :: st, h)) := az_wp_iff.trans az_go_lda
theorem az_s100_42 {a : Nat} : az_p100 C Q (42, lv, .ref a :: st, h) ↔ az_mf (h.1 a) 8 11 (fun v => az_p100 C Q (45, lv, v :: st, h)) := az_wp_iff.trans az_go_gf
theorem az_s100_45 : az_p100 C Q (45, lv, st, h) ↔ az_p100 C Q (46, lv, .int (Int32.ofInt (3)) :: st, h) := az_wp_iff
theorem az_s100_46 {x y : Int32} : az_p100 C Q (46, lv, .int y :: .int x :: st, h) ↔ (¬ x = y → az_p100 C Q (59, lv, st, h)) ∧ (¬ ¬ x = y → az_p100 C Q (49, lv, st, h)) := az_wp_iff.trans (az_go_if2 az_d_eq)
theorem az_s100_49 : az_p100 C Q (49, lv, st, h) ↔ az_ma (lv 0) (fun x => az_p100 C Q (50, lv, x :: st, h)) := az_wp_iff.trans az_go_lda
theorem az_s100_50 {x : Int32} : az_p100 C Q (50, lv, .int x :: st, h) ↔ az_p100 C Q (51, lv, .int x :: .int x :: st, h) := az_wp_iff
theorem az_s100_50r {x : Nat} : az_p100 C Q (50, lv, .ref x :: st, h) ↔ az_p100 C Q (51, lv, .ref x :: .ref x :: st, h) := az_wp_iff
theorem az_s100_51 {a : Nat} : az_p100 C Q (51, lv, .ref a :: st, h) ↔ az_mf (h.1 a) 8 17 (fun v => az_p100 C Q (54, lv, v :: st, h)) := az_wp_iff.trans az_go_gf
theorem az_s100_54 : az_p100 C Q (54, lv, st, h) ↔ az_p100 C Q (55, lv, .int (Int32.ofInt (1)) :: st, h) := az_wp_iff
theorem az_s100_55 {x y : Int32} : az_p100 C Q (55, lv, .int y :: .int x :: st, h) ↔ az_p100 C Q (56, lv, .int (x + y) :: st, h) := az_wp_iff
theorem az_s100_56 {a : Nat} {v : Value} : az_p100 C Q (56, lv, v :: .ref a :: st, h) ↔ az_mp (h.1 a) 8 17 0 v (fun c => az_p100 C Q (59, lv, st, az_uh h a c)) := az_wp_iff.trans az_go_pf
theorem az_s100_59 : az_p100 C Q (59, lv, [], h) ↔ Q none h := az_wp_iff
def az_p101 (C : az_Cl) (Q : Option Value → az_H → Prop) : az_S → Prop := az_wp C (fun _ => none) none (az_fn az_k101) Q
theorem az_s101_0 : az_p101 C Q (0, lv, st, h) ↔ az_ma (lv 0) (fun x => az_p101 C Q (1, lv, x :: st, h)) := az_wp_iff.trans az_go_lda
theorem az_s101_1 {a : Nat} : az_p101 C Q (1, lv, .ref a :: st, h) ↔ az_cat st ≤ 8 ∧ az_p101 C Q (4, lv, st, h) := az_wp_iff.trans az_go_if
theorem az_s101_4 : az_p101 C Q (4, lv, st, h) ↔ az_ma (lv 0) (fun x => az_p101 C Q (5, lv, x :: st, h)) := az_wp_iff.trans az_go_lda
theorem az_s101_5 : az_p101 C Q (5, lv, st, h) ↔ az_ma (lv 1) (fun x => az_p101 C Q (6, lv, x :: st, h)) := az_wp_iff.trans az_go_lda
theorem az_s101_6 {a : Nat} {v : Value} : az_p101 C Q (6, lv, v :: .ref a :: st, h) ↔ az_mp (h.1 a) 9 0 3 v (fun c => az_p101 C Q (9, lv, st, az_uh h a c)) := az_wp_iff.trans az_go_pf
theorem az_s101_9 : az_p101 C Q (9, lv, st, h) ↔ az_ma (lv 0) (fun x => az_p101 C Q (10, lv, x :: st, h)) := az_wp_iff.trans az_go_lda
theorem az_s101_10 : az_p101 C Q (10, lv, st, h) ↔ az_ma (lv 2) (fun x => az_p101 C Q (11, lv, x :: st, h)) := az_wp_iff.trans az_go_lda
theorem az_s101_11 {a : Nat} {v : Value} : az_p101 C Q (11, lv, v :: .ref a :: st, h) ↔ az_mp (h.1 a) 9 1 3 v (fun c => az_p101 C Q (14, lv, st, az_uh h a c)) := az_wp_iff.trans az_go_pf
theorem az_s101_14 : az_p101 C Q (14, lv, [], h) ↔ Q none h := az_wp_iff
def az_p102 (C : az_Cl) (Q : Option Value → az_H → Prop) : az_S → Prop := az_wp C (fun _ => none) none (az_fn az_k102) Q
theorem az_s102_0 : az_p102 C Q (0, lv, st, h) ↔ az_ma (lv 1) (fun x => az_p102 C Q (1, lv, x :: st, h)) := az_wp_iff.trans az_go_lda
theorem az_s102_1 {a : Nat} : az_p102 C Q (1, lv, .ref a :: st, h) ↔ az_mf (h.1 a) 8 1 (fun v => az_p102 C Q (4, lv, v :: st, h)) := az_wp_iff.trans az_go_gf
theorem az_s102_4 {x : Int32} : az_p102 C Q (4, lv, .int x :: st, h) ↔ (x.toInt = 0 → az_p102 C Q (44, lv, st, h)) ∧ (¬ x.toInt = 0 → (x.toInt = 1 → az_p102 C Q (52, lv, st, h)) ∧ (¬ x.toInt = 1 → (x.toInt = 2 → az_p102 C Q (60, lv, st, h)) ∧ (¬ x.toInt = 2 → (x.toInt = 3 → az_p102 C Q (68, lv, st, h)) ∧ (¬ x.toInt = 3 → (x.toInt = 4 → az_p102 C Q (76, lv, st, h)) ∧ (¬ x.toInt = 4 → (x.toInt = 5 → az_p102 C Q (84, lv, st, h)) ∧ (¬ x.toInt = 5 → az_p102 C Q (92, lv, st, h))))))) := az_wp_iff.trans (az_sel_iff (K := fun t => az_p102 C Q (t, lv, st, h)) _ _ _)
theorem az_s102_44 : az_p102 C Q (44, lv, st, h) ↔ az_ma (lv 0) (fun x => az_p102 C Q (45, lv, x :: st, h)) := az_wp_iff.trans az_go_lda
theorem az_s102_45 : az_p102 C Q (45, lv, st, h) ↔ az_ma (lv 1) (fun x => az_p102 C Q (46, lv, x :: st, h)) := az_wp_iff.trans az_go_lda
theorem az_s102_46 {a : Nat} {v1 : Value} : az_p102 C Q (46, lv, v1 :: .ref a :: st, h) ↔ az_isob (h.1 a) 9 = true ∧ az_cat st ≤ 8 ∧ az_mc C 103 [.ref a, v1] h (fun v h' => az_p102 C Q (49, lv, v ++ st, h')) := az_wp_iff.trans (az_go_if.trans (and_congr Iff.rfl az_go_call))
theorem az_s102_49 : az_p102 C Q (49, lv, st, h) ↔ az_p102 C Q (92, lv, st, h) := az_wp_iff
theorem az_s102_52 : az_p102 C Q (52, lv, st, h) ↔ az_ma (lv 0) (fun x => az_p102 C Q (53, lv, x :: st, h)) := az_wp_iff.trans az_go_lda
theorem az_s102_53 : az_p102 C Q (53, lv, st, h) ↔ az_ma (lv 1) (fun x => az_p102 C Q (54, lv, x :: st, h)) := az_wp_iff.trans az_go_lda
theorem az_s102_54 {a : Nat} {v1 : Value} : az_p102 C Q (54, lv, v1 :: .ref a :: st, h) ↔ az_isob (h.1 a) 9 = true ∧ az_cat st ≤ 8 ∧ az_mc C 104 [.ref a, v1] h (fun v h' => az_p102 C Q (57, lv, v ++ st, h')) := az_wp_iff.trans (az_go_if.trans (and_congr Iff.rfl az_go_call))
theorem az_s102_57 : az_p102 C Q (57, lv, st, h) ↔ az_p102 C Q (92, lv, st, h) := az_wp_iff
theorem az_s102_60 : az_p102 C Q (60, lv, st, h) ↔ az_ma (lv 0) (fun x => az_p102 C Q (61, lv, x :: st, h)) := az_wp_iff.trans az_go_lda
theorem az_s102_61 : az_p102 C Q (61, lv, st, h) ↔ az_ma (lv 1) (fun x => az_p102 C Q (62, lv, x :: st, h)) := az_wp_iff.trans az_go_lda
theorem az_s102_62 {a : Nat} {v1 : Value} : az_p102 C Q (62, lv, v1 :: .ref a :: st, h) ↔ az_isob (h.1 a) 9 = true ∧ az_cat st ≤ 8 ∧ az_mc C 105 [.ref a, v1] h (fun v h' => az_p102 C Q (65, lv, v ++ st, h')) := az_wp_iff.trans (az_go_if.trans (and_congr Iff.rfl az_go_call))
theorem az_s102_65 : az_p102 C Q (65, lv, st, h) ↔ az_p102 C Q (92, lv, st, h) := az_wp_iff
theorem az_s102_68 : az_p102 C Q (68, lv, st, h) ↔ az_ma (lv 0) (fun x => az_p102 C Q (69, lv, x :: st, h)) := az_wp_iff.trans az_go_lda
theorem az_s102_69 : az_p102 C Q (69, lv, st, h) ↔ az_ma (lv 1) (fun x => az_p102 C Q (70, lv, x :: st, h)) := az_wp_iff.trans az_go_lda
theorem az_s102_70 {a : Nat} {v1 : Value} : az_p102 C Q (70, lv, v1 :: .ref a :: st, h) ↔ az_isob (h.1 a) 9 = true ∧ az_cat st ≤ 8 ∧ az_mc C 106 [.ref a, v1] h (fun v h' => az_p102 C Q (73, lv, v ++ st, h')) := az_wp_iff.trans (az_go_if.trans (and_congr Iff.rfl az_go_call))
theorem az_s102_73 : az_p102 C Q (73, lv, st, h) ↔ az_p102 C Q (92, lv, st, h) := az_wp_iff
theorem az_s102_76 : az_p102 C Q (76, lv, st, h) ↔ az_ma (lv 0) (fun x => az_p102 C Q (77, lv, x :: st, h)) := az_wp_iff.trans az_go_lda
theorem az_s102_77 : az_p102 C Q (77, lv, st, h) ↔ az_ma (lv 1) (fun x => az_p102 C Q (78, lv, x :: st, h)) := az_wp_iff.trans az_go_lda
theorem az_s102_78 {a : Nat} {v1 : Value} : az_p102 C Q (78, lv, v1 :: .ref a :: st, h) ↔ az_isob (h.1 a) 9 = true ∧ az_cat st ≤ 8 ∧ az_mc C 107 [.ref a, v1] h (fun v h' => az_p102 C Q (81, lv, v ++ st, h')) := az_wp_iff.trans (az_go_if.trans (and_congr Iff.rfl az_go_call))
theorem az_s102_81 : az_p102 C Q (81, lv, st, h) ↔ az_p102 C Q (92, lv, st, h) := az_wp_iff
theorem az_s102_84 : az_p102 C Q (84, lv, st, h) ↔ az_ma (lv 0) (fun x => az_p102 C Q (85, lv, x :: st, h)) := az_wp_iff.trans az_go_lda
theorem az_s102_85 : az_p102 C Q (85, lv, st, h) ↔ az_ma (lv 1) (fun x => az_p102 C Q (86, lv, x :: st, h)) := az_wp_iff.trans az_go_lda
theorem az_s102_86 {a : Nat} {v1 : Value} : az_p102 C Q (86, lv, v1 :: .ref a :: st, h) ↔ az_isob (h.1 a) 9 = true ∧ az_cat st ≤ 8 ∧ az_mc C 108 [.ref a, v1] h (fun v h' => az_p102 C Q (89, lv, v ++ st, h')) := az_wp_iff.trans (az_go_if.trans (and_congr Iff.rfl az_go_call))
theorem az_s102_89 : az_p102 C Q (89, lv, st, h) ↔ az_p102 C Q (92, lv, st, h) := az_wp_iff
theorem az_s102_92 : az_p102 C Q (92, lv, [], h) ↔ Q none h := az_wp_iff
def az_p103 (C : az_Cl) (Q : Option Value → az_H → Prop) : az_S → Prop := az_wp C (fun _ => none) none (az_fn az_k103) Q
theorem az_s103_0 : az_p103 C Q (0, lv, st, h) ↔ az_ma (lv 1) (fun x => az_p103 C Q (1, lv, x :: st, h)) := az_wp_iff.trans az_go_lda
theorem az_s103_1 {a : Nat} : az_p103 C Q (1, lv, .ref a :: st, h) ↔ az_mf (h.1 a) 8 18 (fun v => az_p103 C Q (4, lv, v :: st, h)) := az_wp_iff.trans az_go_gf
theorem az_s103_4 {a : Nat} : az_p103 C Q (4, lv, .ref a :: st, h) ↔ az_mf (h.1 a) 4 0 (fun v => az_p103 C Q (7, lv, v :: st, h)) := az_wp_iff.trans az_go_gf
theorem az_s103_7 {x : Int32} : az_p103 C Q (7, lv, .int x :: st, h) ↔ az_p103 C Q (8, (az_s1 lv 2 (.int x)), st, h) := az_wp_iff
theorem az_s103_8 : az_p103 C Q (8, lv, st, h) ↔ az_ma (lv 0) (fun x => az_p103 C Q (9, lv, x :: st, h)) := az_wp_iff.trans az_go_lda
theorem az_s103_9 {a : Nat} : az_p103 C Q (9, lv, .ref a :: st, h) ↔ az_mf (h.1 a) 9 0 (fun v => az_p103 C Q (12, lv, v :: st, h)) := az_wp_iff.trans az_go_gf
theorem az_s103_12 : az_p103 C Q (12, lv, st, h) ↔ az_mi (lv 2) (fun x => az_p103 C Q (13, lv, .int x :: st, h)) := az_wp_iff.trans az_go_ldi
theorem az_s103_13 {a : Nat} {v1 : Value} : az_p103 C Q (13, lv, v1 :: .ref a :: st, h) ↔ az_isob (h.1 a) 5 = true ∧ az_cat st ≤ 8 ∧ az_mc C 40 [.ref a, v1] h (fun v h' => az_p103 C Q (16, lv, v ++ st, h')) := az_wp_iff.trans (az_go_if.trans (and_congr Iff.rfl az_go_call))
theorem az_s103_16 {x : Int32} : az_p103 C Q (16, lv, .int x :: st, h) ↔ az_p103 C Q (17, lv, .long x.toInt64 :: st, h) := az_wp_iff
theorem az_s103_17 {x : Int64} : az_p103 C Q (17, lv, .long x :: st, h) ↔ az_p103 C Q (18, (az_s2 lv 3 (.long x)), st, h) := az_wp_iff
theorem az_s103_18 : az_p103 C Q (18, lv, st, h) ↔ az_ml (lv 3) (fun x => az_p103 C Q (19, lv, .long x :: st, h)) := az_wp_iff.trans az_go_ldl
theorem az_s103_19 : az_p103 C Q (19, lv, st, h) ↔ az_ma (lv 1) (fun x => az_p103 C Q (20, lv, x :: st, h)) := az_wp_iff.trans az_go_lda
theorem az_s103_20 {a : Nat} : az_p103 C Q (20, lv, .ref a :: st, h) ↔ az_mf (h.1 a) 8 2 (fun v => az_p103 C Q (23, lv, v :: st, h)) := az_wp_iff.trans az_go_gf
theorem az_s103_23 {x : Int32} : az_p103 C Q (23, lv, .int x :: st, h) ↔ az_p103 C Q (24, lv, .long x.toInt64 :: st, h) := az_wp_iff
theorem az_s103_24 {x y : Int64} : az_p103 C Q (24, lv, .long y :: .long x :: st, h) ↔ az_p103 C Q (25, lv, .long (x * y) :: st, h) := az_wp_iff
theorem az_s103_25 : az_p103 C Q (25, lv, st, h) ↔ az_p103 C Q (28, lv, .long (Int64.ofInt (1000)) :: st, h) := az_wp_iff
theorem az_s103_28 {x y : Int64} : az_p103 C Q (28, lv, .long y :: .long x :: st, h) ↔ ¬ y = 0 ∧ az_p103 C Q (29, lv, .long (x / y) :: st, h) := az_wp_iff.trans az_go_ldv
theorem az_s103_29 {x : Int64} : az_p103 C Q (29, lv, .long x :: st, h) ↔ az_p103 C Q (31, (az_s2 lv 5 (.long x)), st, h) := az_wp_iff
theorem az_s103_31 : az_p103 C Q (31, lv, st, h) ↔ az_ma (lv 0) (fun x => az_p103 C Q (32, lv, x :: st, h)) := az_wp_iff.trans az_go_lda
theorem az_s103_32 {a : Nat} : az_p103 C Q (32, lv, .ref a :: st, h) ↔ az_mf (h.1 a) 9 0 (fun v => az_p103 C Q (35, lv, v :: st, h)) := az_wp_iff.trans az_go_gf
theorem az_s103_35 : az_p103 C Q (35, lv, st, h) ↔ az_mi (lv 2) (fun x => az_p103 C Q (36, lv, .int x :: st, h)) := az_wp_iff.trans az_go_ldi
theorem az_s103_36 : az_p103 C Q (36, lv, st, h) ↔ az_ml (lv 3) (fun x => az_p103 C Q (37, lv, .long x :: st, h)) := az_wp_iff.trans az_go_ldl
theorem az_s103_37 : az_p103 C Q (37, lv, st, h) ↔ az_ml (lv 5) (fun x => az_p103 C Q (39, lv, .long x :: st, h)) := az_wp_iff.trans az_go_ldl
theorem az_s103_39 {x y : Int64} : az_p103 C Q (39, lv, .long y :: .long x :: st, h) ↔ az_p103 C Q (40, lv, .long (x - y) :: st, h) := az_wp_iff
theorem az_s103_40 {a : Nat} {v1 v2 : Value} : az_p103 C Q (40, lv, v2 :: v1 :: .ref a :: st, h) ↔ az_isob (h.1 a) 5 = true ∧ az_cat st ≤ 8 ∧ az_mc C 44 [.ref a, v1, v2] h (fun v h' => az_p103 C Q (43, lv, v ++ st, h')) := az_wp_iff.trans (az_go_if.trans (and_congr Iff.rfl az_go_call))
theorem az_s103_43 : az_p103 C Q (43, lv, st, h) ↔ az_ma (lv 0) (fun x => az_p103 C Q (44, lv, x :: st, h)) := az_wp_iff.trans az_go_lda
theorem az_s103_44 {a : Nat} : az_p103 C Q (44, lv, .ref a :: st, h) ↔ az_mf (h.1 a) 9 1 (fun v => az_p103 C Q (47, lv, v :: st, h)) := az_wp_iff.trans az_go_gf
theorem az_s103_47 {x : Int32} : az_p103 C Q (47, lv, .int x :: st, h) ↔ az_p103 C Q (48, lv, .int x :: .int x :: st, h) := az_wp_iff
theorem az_s103_47r {x : Nat} : az_p103 C Q (47, lv, .ref x :: st, h) ↔ az_p103 C Q (48, lv, .ref x :: .ref x :: st, h) := az_wp_iff
theorem az_s103_48 {a : Nat} : az_p103 C Q (48, lv, .ref a :: st, h) ↔ az_mf (h.1 a) 3 3 (fun v => az_p103 C Q (51, lv, v :: st, h)) := az_wp_iff.trans az_go_gf
theorem az_s103_51 : az_p103 C Q (51, lv, st, h) ↔ az_ml (lv 5) (fun x => az_p103 C Q (53, lv, .long x :: st, h)) := az_wp_iff.trans az_go_ldl
theorem az_s103_53 {x y : Int64} : az_p103 C Q (53, lv, .long y :: .long x :: st, h) ↔ az_p103 C Q (54, lv, .long (x + y) :: st, h) := az_wp_iff
theorem az_s103_54 {a : Nat} {v : Value} : az_p103 C Q (54, lv, v :: .ref a :: st, h) ↔ az_mp (h.1 a) 3 3 1 v (fun c => az_p103 C Q (57, lv, st, az_uh h a c)) := az_wp_iff.trans az_go_pf
theorem az_s103_57 : az_p103 C Q (57, lv, [], h) ↔ Q none h := az_wp_iff
end AzStC2
