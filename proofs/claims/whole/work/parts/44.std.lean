-- deps:
section AzStC3
variable {C : az_Cl} {Q : Option Value → az_H → Prop} {lv : az_L} {st : List Value} {h : az_H}
def az_p104 (C : az_Cl) (Q : Option Value → az_H → Prop) : az_S → Prop := az_wp C (fun _ => none) none (az_fn az_k104) Q
theorem az_s104_0 : az_p104 C Q (0, lv, st, h) ↔ az_ma (lv 1) (fun x => az_p104 C Q (1, lv, x :: st, h)) := az_wp_iff.trans az_go_lda
theorem az_s104_1 {a : Nat} : az_p104 C Q (1, lv, .ref a :: st, h) ↔ az_mf (h.1 a) 8 18 (fun v => az_p104 C Q (4, lv, v :: st, h)) := az_wp_iff.trans az_go_gf
theorem az_s104_4 {a : Nat} : az_p104 C Q (4, lv, .ref a :: st, h) ↔ az_mf (h.1 a) 4 0 (fun v => az_p104 C Q (7, lv, v :: st, h)) := az_wp_iff.trans az_go_gf
theorem az_s104_7 {x : Int32} : az_p104 C Q (7, lv, .int x :: st, h) ↔ az_p104 C Q (8, (az_s1 lv 2 (.int x)), st, h) := az_wp_iff
theorem az_s104_8 : az_p104 C Q (8, lv, st, h) ↔ az_ma (lv 1) (fun x => az_p104 C Q (9, lv, x :: st, h)) := az_wp_iff.trans az_go_lda
theorem az_s104_9 {a : Nat} : az_p104 C Q (9, lv, .ref a :: st, h) ↔ az_mf (h.1 a) 8 2 (fun v => az_p104 C Q (12, lv, v :: st, h)) := az_wp_iff.trans az_go_gf
theorem az_s104_12 : az_p104 C Q (12, lv, st, h) ↔ az_ma (lv 0) (fun x => az_p104 C Q (13, lv, x :: st, h)) := az_wp_iff.trans az_go_lda
theorem az_s104_13 {a : Nat} : az_p104 C Q (13, lv, .ref a :: st, h) ↔ az_mf (h.1 a) 9 0 (fun v => az_p104 C Q (16, lv, v :: st, h)) := az_wp_iff.trans az_go_gf
theorem az_s104_16 : az_p104 C Q (16, lv, st, h) ↔ az_mi (lv 2) (fun x => az_p104 C Q (17, lv, .int x :: st, h)) := az_wp_iff.trans az_go_ldi
theorem az_s104_17 {a : Nat} {v1 : Value} : az_p104 C Q (17, lv, v1 :: .ref a :: st, h) ↔ az_isob (h.1 a) 5 = true ∧ az_cat st ≤ 8 ∧ az_mc C 42 [.ref a, v1] h (fun v h' => az_p104 C Q (20, lv, v ++ st, h')) := az_wp_iff.trans (az_go_if.trans (and_congr Iff.rfl az_go_call))
theorem az_s104_20 {x y : Int32} : az_p104 C Q (20, lv, .int y :: .int x :: st, h) ↔ az_p104 C Q (21, lv, .int (x - y) :: st, h) := az_wp_iff
theorem az_s104_21 {x : Int32} : az_p104 C Q (21, lv, .int x :: st, h) ↔ az_p104 C Q (22, (az_s1 lv 3 (.int x)), st, h) := az_wp_iff
theorem az_s104_22 : az_p104 C Q (22, lv, st, h) ↔ az_p104 C Q (25, lv, .int (Int32.ofInt (1000)) :: st, h) := az_wp_iff
theorem az_s104_25 : az_p104 C Q (25, lv, st, h) ↔ az_ma (lv 1) (fun x => az_p104 C Q (26, lv, x :: st, h)) := az_wp_iff.trans az_go_lda
theorem az_s104_26 {a : Nat} : az_p104 C Q (26, lv, .ref a :: st, h) ↔ az_mf (h.1 a) 8 2 (fun v => az_p104 C Q (29, lv, v :: st, h)) := az_wp_iff.trans az_go_gf
theorem az_s104_29 {x y : Int32} : az_p104 C Q (29, lv, .int y :: .int x :: st, h) ↔ az_p104 C Q (30, lv, .int (x - y) :: st, h) := az_wp_iff
theorem az_s104_30 {x : Int32} : az_p104 C Q (30, lv, .int x :: st, h) ↔ az_p104 C Q (32, (az_s1 lv 4 (.int x)), st, h) := az_wp_iff
theorem az_s104_32 : az_p104 C Q (32, lv, st, h) ↔ az_mi (lv 3) (fun x => az_p104 C Q (33, lv, .int x :: st, h)) := az_wp_iff.trans az_go_ldi
theorem az_s104_33 {x : Int32} : az_p104 C Q (33, lv, .int x :: st, h) ↔ (x ≤ 0 → az_p104 C Q (41, lv, st, h)) ∧ (¬ x ≤ 0 → az_p104 C Q (36, lv, st, h)) := az_wp_iff.trans (az_go_if1 az_d_eq)
theorem az_s104_36 : az_p104 C Q (36, lv, st, h) ↔ az_mi (lv 4) (fun x => az_p104 C Q (38, lv, .int x :: st, h)) := az_wp_iff.trans az_go_ldi
theorem az_s104_38 {x : Int32} : az_p104 C Q (38, lv, .int x :: st, h) ↔ (0 < x → az_p104 C Q (42, lv, st, h)) ∧ (¬ 0 < x → az_p104 C Q (41, lv, st, h)) := az_wp_iff.trans (az_go_if1 az_d_eq)
theorem az_s104_41 : az_p104 C Q (41, lv, [], h) ↔ Q none h := az_wp_iff
theorem az_s104_42 : az_p104 C Q (42, lv, st, h) ↔ az_ma (lv 0) (fun x => az_p104 C Q (43, lv, x :: st, h)) := az_wp_iff.trans az_go_lda
theorem az_s104_43 {a : Nat} : az_p104 C Q (43, lv, .ref a :: st, h) ↔ az_mf (h.1 a) 9 0 (fun v => az_p104 C Q (46, lv, v :: st, h)) := az_wp_iff.trans az_go_gf
theorem az_s104_46 : az_p104 C Q (46, lv, st, h) ↔ az_mi (lv 2) (fun x => az_p104 C Q (47, lv, .int x :: st, h)) := az_wp_iff.trans az_go_ldi
theorem az_s104_47 {a : Nat} {v1 : Value} : az_p104 C Q (47, lv, v1 :: .ref a :: st, h) ↔ az_isob (h.1 a) 5 = true ∧ az_cat st ≤ 8 ∧ az_mc C 40 [.ref a, v1] h (fun v h' => az_p104 C Q (50, lv, v ++ st, h')) := az_wp_iff.trans (az_go_if.trans (and_congr Iff.rfl az_go_call))
theorem az_s104_50 {x : Int32} : az_p104 C Q (50, lv, .int x :: st, h) ↔ az_p104 C Q (51, lv, .long x.toInt64 :: st, h) := az_wp_iff
theorem az_s104_51 {x : Int64} : az_p104 C Q (51, lv, .long x :: st, h) ↔ az_p104 C Q (53, (az_s2 lv 5 (.long x)), st, h) := az_wp_iff
theorem az_s104_53 : az_p104 C Q (53, lv, st, h) ↔ az_ml (lv 5) (fun x => az_p104 C Q (55, lv, .long x :: st, h)) := az_wp_iff.trans az_go_ldl
theorem az_s104_55 : az_p104 C Q (55, lv, st, h) ↔ az_mi (lv 3) (fun x => az_p104 C Q (56, lv, .int x :: st, h)) := az_wp_iff.trans az_go_ldi
theorem az_s104_56 {x : Int32} : az_p104 C Q (56, lv, .int x :: st, h) ↔ az_p104 C Q (57, lv, .long x.toInt64 :: st, h) := az_wp_iff
theorem az_s104_57 {x y : Int64} : az_p104 C Q (57, lv, .long y :: .long x :: st, h) ↔ az_p104 C Q (58, lv, .long (x * y) :: st, h) := az_wp_iff
theorem az_s104_58 : az_p104 C Q (58, lv, st, h) ↔ az_mi (lv 4) (fun x => az_p104 C Q (60, lv, .int x :: st, h)) := az_wp_iff.trans az_go_ldi
theorem az_s104_60 {x : Int32} : az_p104 C Q (60, lv, .int x :: st, h) ↔ az_p104 C Q (61, lv, .long x.toInt64 :: st, h) := az_wp_iff
theorem az_s104_61 {x y : Int64} : az_p104 C Q (61, lv, .long y :: .long x :: st, h) ↔ ¬ y = 0 ∧ az_p104 C Q (62, lv, .long (x / y) :: st, h) := az_wp_iff.trans az_go_ldv
theorem az_s104_62 {x : Int64} : az_p104 C Q (62, lv, .long x :: st, h) ↔ az_p104 C Q (64, (az_s2 lv 7 (.long x)), st, h) := az_wp_iff
theorem az_s104_64 : az_p104 C Q (64, lv, st, h) ↔ az_ma (lv 0) (fun x => az_p104 C Q (65, lv, x :: st, h)) := az_wp_iff.trans az_go_lda
theorem az_s104_65 {a : Nat} : az_p104 C Q (65, lv, .ref a :: st, h) ↔ az_mf (h.1 a) 9 0 (fun v => az_p104 C Q (68, lv, v :: st, h)) := az_wp_iff.trans az_go_gf
theorem az_s104_68 : az_p104 C Q (68, lv, st, h) ↔ az_mi (lv 2) (fun x => az_p104 C Q (69, lv, .int x :: st, h)) := az_wp_iff.trans az_go_ldi
theorem az_s104_69 : az_p104 C Q (69, lv, st, h) ↔ az_ml (lv 5) (fun x => az_p104 C Q (71, lv, .long x :: st, h)) := az_wp_iff.trans az_go_ldl
theorem az_s104_71 : az_p104 C Q (71, lv, st, h) ↔ az_ml (lv 7) (fun x => az_p104 C Q (73, lv, .long x :: st, h)) := az_wp_iff.trans az_go_ldl
theorem az_s104_73 {x y : Int64} : az_p104 C Q (73, lv, .long y :: .long x :: st, h) ↔ az_p104 C Q (74, lv, .long (x + y) :: st, h) := az_wp_iff
theorem az_s104_74 {a : Nat} {v1 v2 : Value} : az_p104 C Q (74, lv, v2 :: v1 :: .ref a :: st, h) ↔ az_isob (h.1 a) 5 = true ∧ az_cat st ≤ 8 ∧ az_mc C 44 [.ref a, v1, v2] h (fun v h' => az_p104 C Q (77, lv, v ++ st, h')) := az_wp_iff.trans (az_go_if.trans (and_congr Iff.rfl az_go_call))
theorem az_s104_77 : az_p104 C Q (77, lv, st, h) ↔ az_ma (lv 0) (fun x => az_p104 C Q (78, lv, x :: st, h)) := az_wp_iff.trans az_go_lda
theorem az_s104_78 {a : Nat} : az_p104 C Q (78, lv, .ref a :: st, h) ↔ az_mf (h.1 a) 9 0 (fun v => az_p104 C Q (81, lv, v :: st, h)) := az_wp_iff.trans az_go_gf
theorem az_s104_81 : az_p104 C Q (81, lv, st, h) ↔ az_mi (lv 2) (fun x => az_p104 C Q (82, lv, .int x :: st, h)) := az_wp_iff.trans az_go_ldi
theorem az_s104_82 : az_p104 C Q (82, lv, st, h) ↔ az_ma (lv 1) (fun x => az_p104 C Q (83, lv, x :: st, h)) := az_wp_iff.trans az_go_lda
theorem az_s104_83 {a : Nat} : az_p104 C Q (83, lv, .ref a :: st, h) ↔ az_mf (h.1 a) 8 2 (fun v => az_p104 C Q (86, lv, v :: st, h)) := az_wp_iff.trans az_go_gf
theorem az_s104_86 {a : Nat} {v1 v2 : Value} : az_p104 C Q (86, lv, v2 :: v1 :: .ref a :: st, h) ↔ az_isob (h.1 a) 5 = true ∧ az_cat st ≤ 8 ∧ az_mc C 45 [.ref a, v1, v2] h (fun v h' => az_p104 C Q (89, lv, v ++ st, h')) := az_wp_iff.trans (az_go_if.trans (and_congr Iff.rfl az_go_call))
theorem az_s104_89 : az_p104 C Q (89, lv, st, h) ↔ az_ma (lv 0) (fun x => az_p104 C Q (90, lv, x :: st, h)) := az_wp_iff.trans az_go_lda
theorem az_s104_90 {a : Nat} : az_p104 C Q (90, lv, .ref a :: st, h) ↔ az_mf (h.1 a) 9 1 (fun v => az_p104 C Q (93, lv, v :: st, h)) := az_wp_iff.trans az_go_gf
theorem az_s104_93 {x : Int32} : az_p104 C Q (93, lv, .int x :: st, h) ↔ az_p104 C Q (94, lv, .int x :: .int x :: st, h) := az_wp_iff
theorem az_s104_93r {x : Nat} : az_p104 C Q (93, lv, .ref x :: st, h) ↔ az_p104 C Q (94, lv, .ref x :: .ref x :: st, h) := az_wp_iff
theorem az_s104_94 {a : Nat} : az_p104 C Q (94, lv, .ref a :: st, h) ↔ az_mf (h.1 a) 3 1 (fun v => az_p104 C Q (97, lv, v :: st, h)) := az_wp_iff.trans az_go_gf
theorem az_s104_97 : az_p104 C Q (97, lv, st, h) ↔ az_ml (lv 7) (fun x => az_p104 C Q (99, lv, .long x :: st, h)) := az_wp_iff.trans az_go_ldl
theorem az_s104_99 {x y : Int64} : az_p104 C Q (99, lv, .long y :: .long x :: st, h) ↔ az_p104 C Q (100, lv, .long (x + y) :: st, h) := az_wp_iff
theorem az_s104_100 {a : Nat} {v : Value} : az_p104 C Q (100, lv, v :: .ref a :: st, h) ↔ az_mp (h.1 a) 3 1 1 v (fun c => az_p104 C Q (103, lv, st, az_uh h a c)) := az_wp_iff.trans az_go_pf
theorem az_s104_103 : az_p104 C Q (103, lv, [], h) ↔ Q none h := az_wp_iff
def az_p105 (C : az_Cl) (Q : Option Value → az_H → Prop) : az_S → Prop := az_wp C (fun _ => none) none (az_fn az_k105) Q
theorem az_s105_0 : az_p105 C Q (0, lv, st, h) ↔ az_ma (lv 1) (fun x => az_p105 C Q (1, lv, x :: st, h)) := az_wp_iff.trans az_go_lda
theorem az_s105_1 {a : Nat} : az_p105 C Q (1, lv, .ref a :: st, h) ↔ az_mf (h.1 a) 8 18 (fun v => az_p105 C Q (4, lv, v :: st, h)) := az_wp_iff.trans az_go_gf
theorem az_s105_4 {a : Nat} : az_p105 C Q (4, lv, .ref a :: st, h) ↔ az_mf (h.1 a) 4 0 (fun v => az_p105 C Q (7, lv, v :: st, h)) := az_wp_iff.trans az_go_gf
theorem az_s105_7 {x : Int32} : az_p105 C Q (7, lv, .int x :: st, h) ↔ az_p105 C Q (8, (az_s1 lv 2 (.int x)), st, h) := az_wp_iff
theorem az_s105_8 : az_p105 C Q (8, lv, st, h) ↔ az_ma (lv 0) (fun x => az_p105 C Q (9, lv, x :: st, h)) := az_wp_iff.trans az_go_lda
theorem az_s105_9 {a : Nat} : az_p105 C Q (9, lv, .ref a :: st, h) ↔ az_mf (h.1 a) 9 0 (fun v => az_p105 C Q (12, lv, v :: st, h)) := az_wp_iff.trans az_go_gf
theorem az_s105_12 : az_p105 C Q (12, lv, st, h) ↔ az_mi (lv 2) (fun x => az_p105 C Q (13, lv, .int x :: st, h)) := az_wp_iff.trans az_go_ldi
theorem az_s105_13 {a : Nat} {v1 : Value} : az_p105 C Q (13, lv, v1 :: .ref a :: st, h) ↔ az_isob (h.1 a) 5 = true ∧ az_cat st ≤ 8 ∧ az_mc C 40 [.ref a, v1] h (fun v h' => az_p105 C Q (16, lv, v ++ st, h')) := az_wp_iff.trans (az_go_if.trans (and_congr Iff.rfl az_go_call))
theorem az_s105_16 {x : Int32} : az_p105 C Q (16, lv, .int x :: st, h) ↔ az_p105 C Q (17, lv, .long x.toInt64 :: st, h) := az_wp_iff
theorem az_s105_17 {x : Int64} : az_p105 C Q (17, lv, .long x :: st, h) ↔ az_p105 C Q (18, (az_s2 lv 3 (.long x)), st, h) := az_wp_iff
theorem az_s105_18 : az_p105 C Q (18, lv, st, h) ↔ az_ml (lv 3) (fun x => az_p105 C Q (19, lv, .long x :: st, h)) := az_wp_iff.trans az_go_ldl
theorem az_s105_19 {x : Int64} : az_p105 C Q (19, lv, .long x :: st, h) ↔ az_p105 C Q (21, (az_s2 lv 5 (.long x)), st, h) := az_wp_iff
theorem az_s105_21 : az_p105 C Q (21, lv, st, h) ↔ az_p105 C Q (22, lv, .int (Int32.ofInt (1)) :: st, h) := az_wp_iff
theorem az_s105_22 {x : Int32} : az_p105 C Q (22, lv, .int x :: st, h) ↔ az_p105 C Q (24, (az_s1 lv 7 (.int x)), st, h) := az_wp_iff
theorem az_s105_24 : az_p105 C Q (24, lv, st, h) ↔ az_mi (lv 7) (fun x => az_p105 C Q (26, lv, .int x :: st, h)) := az_wp_iff.trans az_go_ldi
theorem az_s105_26 : az_p105 C Q (26, lv, st, h) ↔ az_ma (lv 1) (fun x => az_p105 C Q (27, lv, x :: st, h)) := az_wp_iff.trans az_go_lda
theorem az_s105_27 {a : Nat} : az_p105 C Q (27, lv, .ref a :: st, h) ↔ az_mf (h.1 a) 8 8 (fun v => az_p105 C Q (30, lv, v :: st, h)) := az_wp_iff.trans az_go_gf
theorem az_s105_30 {x y : Int32} : az_p105 C Q (30, lv, .int y :: .int x :: st, h) ↔ (y ≤ x → az_p105 C Q (73, lv, st, h)) ∧ (¬ y ≤ x → az_p105 C Q (33, lv, st, h)) := az_wp_iff.trans (az_go_if2 az_d_eq)
theorem az_s105_33 : az_p105 C Q (33, lv, st, h) ↔ az_ml (lv 3) (fun x => az_p105 C Q (34, lv, .long x :: st, h)) := az_wp_iff.trans az_go_ldl
theorem az_s105_34 : az_p105 C Q (34, lv, st, h) ↔ az_ma (lv 1) (fun x => az_p105 C Q (35, lv, x :: st, h)) := az_wp_iff.trans az_go_lda
theorem az_s105_35 : az_p105 C Q (35, lv, st, h) ↔ az_mi (lv 7) (fun x => az_p105 C Q (37, lv, .int x :: st, h)) := az_wp_iff.trans az_go_ldi
theorem az_s105_37 {a : Nat} {v1 : Value} : az_p105 C Q (37, lv, v1 :: .ref a :: st, h) ↔ az_isob (h.1 a) 8 = true ∧ az_cat st ≤ 8 ∧ az_mc C 87 [.ref a, v1] h (fun v h' => az_p105 C Q (40, lv, v ++ st, h')) := az_wp_iff.trans (az_go_if.trans (and_congr Iff.rfl az_go_call))
theorem az_s105_40 {x : Int32} : az_p105 C Q (40, lv, .int x :: st, h) ↔ az_p105 C Q (41, lv, .long x.toInt64 :: st, h) := az_wp_iff
theorem az_s105_41 {x y : Int64} : az_p105 C Q (41, lv, .long y :: .long x :: st, h) ↔ az_p105 C Q (42, lv, .long (x * y) :: st, h) := az_wp_iff
theorem az_s105_42 : az_p105 C Q (42, lv, st, h) ↔ az_p105 C Q (45, lv, .long (Int64.ofInt (1000)) :: st, h) := az_wp_iff
theorem az_s105_45 {x y : Int64} : az_p105 C Q (45, lv, .long y :: .long x :: st, h) ↔ ¬ y = 0 ∧ az_p105 C Q (46, lv, .long (x / y) :: st, h) := az_wp_iff.trans az_go_ldv
theorem az_s105_46 {x : Int64} : az_p105 C Q (46, lv, .long x :: st, h) ↔ az_p105 C Q (48, (az_s2 lv 8 (.long x)), st, h) := az_wp_iff
theorem az_s105_48 : az_p105 C Q (48, lv, st, h) ↔ az_ma (lv 1) (fun x => az_p105 C Q (49, lv, x :: st, h)) := az_wp_iff.trans az_go_lda
theorem az_s105_49 {a : Nat} : az_p105 C Q (49, lv, .ref a :: st, h) ↔ az_mf (h.1 a) 8 18 (fun v => az_p105 C Q (52, lv, v :: st, h)) := az_wp_iff.trans az_go_gf
theorem az_s105_52 : az_p105 C Q (52, lv, st, h) ↔ az_mi (lv 7) (fun x => az_p105 C Q (54, lv, .int x :: st, h)) := az_wp_iff.trans az_go_ldi
theorem az_s105_54 : az_p105 C Q (54, lv, st, h) ↔ az_ml (lv 8) (fun x => az_p105 C Q (56, lv, .long x :: st, h)) := az_wp_iff.trans az_go_ldl
theorem az_s105_56 {x : Int64} : az_p105 C Q (56, lv, .long x :: st, h) ↔ az_p105 C Q (57, lv, .int x.toInt32 :: st, h) := az_wp_iff
theorem az_s105_57 {a : Nat} {v1 v2 : Value} : az_p105 C Q (57, lv, v2 :: v1 :: .ref a :: st, h) ↔ az_isob (h.1 a) 4 = true ∧ az_cat st ≤ 8 ∧ az_mc C 33 [.ref a, v1, v2] h (fun v h' => az_p105 C Q (60, lv, v ++ st, h')) := az_wp_iff.trans (az_go_if.trans (and_congr Iff.rfl az_go_call))
theorem az_s105_60 : az_p105 C Q (60, lv, st, h) ↔ az_ml (lv 5) (fun x => az_p105 C Q (62, lv, .long x :: st, h)) := az_wp_iff.trans az_go_ldl
theorem az_s105_62 : az_p105 C Q (62, lv, st, h) ↔ az_ml (lv 8) (fun x => az_p105 C Q (64, lv, .long x :: st, h)) := az_wp_iff.trans az_go_ldl
theorem az_s105_64 {x y : Int64} : az_p105 C Q (64, lv, .long y :: .long x :: st, h) ↔ az_p105 C Q (65, lv, .long (x - y) :: st, h) := az_wp_iff
theorem az_s105_65 {x : Int64} : az_p105 C Q (65, lv, .long x :: st, h) ↔ az_p105 C Q (67, (az_s2 lv 5 (.long x)), st, h) := az_wp_iff
theorem az_s105_67 : az_p105 C Q (67, lv, st, h) ↔ az_mi (lv 7) (fun x => az_p105 C Q (70, (az_s1 lv 7 (.int (x + Int32.ofInt (1)))), st, h)) := az_wp_iff.trans az_go_inc
theorem az_s105_70 : az_p105 C Q (70, lv, st, h) ↔ az_p105 C Q (24, lv, st, h) := az_wp_iff
theorem az_s105_73 : az_p105 C Q (73, lv, st, h) ↔ az_ma (lv 0) (fun x => az_p105 C Q (74, lv, x :: st, h)) := az_wp_iff.trans az_go_lda
theorem az_s105_74 {a : Nat} : az_p105 C Q (74, lv, .ref a :: st, h) ↔ az_mf (h.1 a) 9 0 (fun v => az_p105 C Q (77, lv, v :: st, h)) := az_wp_iff.trans az_go_gf
theorem az_s105_77 : az_p105 C Q (77, lv, st, h) ↔ az_mi (lv 2) (fun x => az_p105 C Q (78, lv, .int x :: st, h)) := az_wp_iff.trans az_go_ldi
theorem az_s105_78 : az_p105 C Q (78, lv, st, h) ↔ az_ml (lv 5) (fun x => az_p105 C Q (80, lv, .long x :: st, h)) := az_wp_iff.trans az_go_ldl
theorem az_s105_80 {a : Nat} {v1 v2 : Value} : az_p105 C Q (80, lv, v2 :: v1 :: .ref a :: st, h) ↔ az_isob (h.1 a) 5 = true ∧ az_cat st ≤ 8 ∧ az_mc C 44 [.ref a, v1, v2] h (fun v h' => az_p105 C Q (83, lv, v ++ st, h')) := az_wp_iff.trans (az_go_if.trans (and_congr Iff.rfl az_go_call))
theorem az_s105_83 : az_p105 C Q (83, lv, [], h) ↔ Q none h := az_wp_iff
def az_p106 (C : az_Cl) (Q : Option Value → az_H → Prop) : az_S → Prop := az_wp C (fun _ => none) none (az_fn az_k106) Q
theorem az_s106_0 : az_p106 C Q (0, lv, st, h) ↔ az_ma (lv 1) (fun x => az_p106 C Q (1, lv, x :: st, h)) := az_wp_iff.trans az_go_lda
theorem az_s106_1 {a : Nat} : az_p106 C Q (1, lv, .ref a :: st, h) ↔ az_mf (h.1 a) 8 18 (fun v => az_p106 C Q (4, lv, v :: st, h)) := az_wp_iff.trans az_go_gf
theorem az_s106_4 : az_p106 C Q (4, lv, st, h) ↔ az_ma (lv 0) (fun x => az_p106 C Q (5, lv, x :: st, h)) := az_wp_iff.trans az_go_lda
theorem az_s106_5 {a : Nat} : az_p106 C Q (5, lv, .ref a :: st, h) ↔ az_mf (h.1 a) 9 0 (fun v => az_p106 C Q (8, lv, v :: st, h)) := az_wp_iff.trans az_go_gf
theorem az_s106_8 : az_p106 C Q (8, lv, st, h) ↔ az_ma (lv 1) (fun x => az_p106 C Q (9, lv, x :: st, h)) := az_wp_iff.trans az_go_lda
theorem az_s106_9 {a : Nat} : az_p106 C Q (9, lv, .ref a :: st, h) ↔ az_mf (h.1 a) 8 18 (fun v => az_p106 C Q (12, lv, v :: st, h)) := az_wp_iff.trans az_go_gf
theorem az_s106_12 {a : Nat} : az_p106 C Q (12, lv, .ref a :: st, h) ↔ az_mf (h.1 a) 4 0 (fun v => az_p106 C Q (15, lv, v :: st, h)) := az_wp_iff.trans az_go_gf
theorem az_s106_15 {a : Nat} {v1 : Value} : az_p106 C Q (15, lv, v1 :: .ref a :: st, h) ↔ az_isob (h.1 a) 5 = true ∧ az_cat st ≤ 8 ∧ az_mc C 41 [.ref a, v1] h (fun v h' => az_p106 C Q (18, lv, v ++ st, h')) := az_wp_iff.trans (az_go_if.trans (and_congr Iff.rfl az_go_call))
theorem az_s106_18 : az_p106 C Q (18, lv, st, h) ↔ az_ma (lv 1) (fun x => az_p106 C Q (19, lv, x :: st, h)) := az_wp_iff.trans az_go_lda
theorem az_s106_19 {a : Nat} : az_p106 C Q (19, lv, .ref a :: st, h) ↔ az_mf (h.1 a) 8 2 (fun v => az_p106 C Q (22, lv, v :: st, h)) := az_wp_iff.trans az_go_gf
theorem az_s106_22 {x y : Int32} : az_p106 C Q (22, lv, .int y :: .int x :: st, h) ↔ (y < x → az_p106 C Q (29, lv, st, h)) ∧ (¬ y < x → az_p106 C Q (25, lv, st, h)) := az_wp_iff.trans (az_go_if2 az_d_eq)
theorem az_s106_25 : az_p106 C Q (25, lv, st, h) ↔ az_p106 C Q (26, lv, .int (Int32.ofInt (0)) :: st, h) := az_wp_iff
theorem az_s106_26 : az_p106 C Q (26, lv, st, h) ↔ az_p106 C Q (30, lv, st, h) := az_wp_iff
theorem az_s106_29 : az_p106 C Q (29, lv, st, h) ↔ az_p106 C Q (30, lv, .int (Int32.ofInt (1)) :: st, h) := az_wp_iff
theorem az_s106_30 {a : Nat} {v : Value} : az_p106 C Q (30, lv, v :: .ref a :: st, h) ↔ az_mp (h.1 a) 4 2 0 v (fun c => az_p106 C Q (33, lv, st, az_uh h a c)) := az_wp_iff.trans az_go_pf
theorem az_s106_33 : az_p106 C Q (33, lv, [], h) ↔ Q none h := az_wp_iff
def az_p107 (C : az_Cl) (Q : Option Value → az_H → Prop) : az_S → Prop := az_wp C (fun _ => none) none (az_fn az_k107) Q
theorem az_s107_0 : az_p107 C Q (0, lv, st, h) ↔ az_ma (lv 0) (fun x => az_p107 C Q (1, lv, x :: st, h)) := az_wp_iff.trans az_go_lda
theorem az_s107_1 {a : Nat} : az_p107 C Q (1, lv, .ref a :: st, h) ↔ az_mf (h.1 a) 9 0 (fun v => az_p107 C Q (4, lv, v :: st, h)) := az_wp_iff.trans az_go_gf
theorem az_s107_4 : az_p107 C Q (4, lv, st, h) ↔ az_ma (lv 1) (fun x => az_p107 C Q (5, lv, x :: st, h)) := az_wp_iff.trans az_go_lda
theorem az_s107_5 {a : Nat} : az_p107 C Q (5, lv, .ref a :: st, h) ↔ az_mf (h.1 a) 8 18 (fun v => az_p107 C Q (8, lv, v :: st, h)) := az_wp_iff.trans az_go_gf
theorem az_s107_8 {a : Nat} : az_p107 C Q (8, lv, .ref a :: st, h) ↔ az_mf (h.1 a) 4 0 (fun v => az_p107 C Q (11, lv, v :: st, h)) := az_wp_iff.trans az_go_gf
theorem az_s107_11 : az_p107 C Q (11, lv, st, h) ↔ az_ma (lv 1) (fun x => az_p107 C Q (12, lv, x :: st, h)) := az_wp_iff.trans az_go_lda
theorem az_s107_12 {a : Nat} : az_p107 C Q (12, lv, .ref a :: st, h) ↔ az_mf (h.1 a) 8 18 (fun v => az_p107 C Q (15, lv, v :: st, h)) := az_wp_iff.trans az_go_gf
theorem az_s107_15 {a : Nat} : az_p107 C Q (15, lv, .ref a :: st, h) ↔ az_mf (h.1 a) 4 1 (fun v => az_p107 C Q (18, lv, v :: st, h)) := az_wp_iff.trans az_go_gf
theorem az_s107_18 {a : Nat} {v1 v2 : Value} : az_p107 C Q (18, lv, v2 :: v1 :: .ref a :: st, h) ↔ az_isob (h.1 a) 5 = true ∧ az_cat st ≤ 8 ∧ az_mc C 51 [.ref a, v1, v2] h (fun v h' => az_p107 C Q (21, lv, v ++ st, h')) := az_wp_iff.trans (az_go_if.trans (and_congr Iff.rfl az_go_call))
theorem az_s107_21 : az_p107 C Q (21, lv, st, h) ↔ az_ma (lv 0) (fun x => az_p107 C Q (22, lv, x :: st, h)) := az_wp_iff.trans az_go_lda
theorem az_s107_22 {a : Nat} : az_p107 C Q (22, lv, .ref a :: st, h) ↔ az_mf (h.1 a) 9 0 (fun v => az_p107 C Q (25, lv, v :: st, h)) := az_wp_iff.trans az_go_gf
theorem az_s107_25 : az_p107 C Q (25, lv, st, h) ↔ az_ma (lv 1) (fun x => az_p107 C Q (26, lv, x :: st, h)) := az_wp_iff.trans az_go_lda
theorem az_s107_26 {a : Nat} : az_p107 C Q (26, lv, .ref a :: st, h) ↔ az_mf (h.1 a) 8 18 (fun v => az_p107 C Q (29, lv, v :: st, h)) := az_wp_iff.trans az_go_gf
theorem az_s107_29 {a : Nat} : az_p107 C Q (29, lv, .ref a :: st, h) ↔ az_mf (h.1 a) 4 0 (fun v => az_p107 C Q (32, lv, v :: st, h)) := az_wp_iff.trans az_go_gf
theorem az_s107_32 : az_p107 C Q (32, lv, st, h) ↔ az_ma (lv 1) (fun x => az_p107 C Q (33, lv, x :: st, h)) := az_wp_iff.trans az_go_lda
theorem az_s107_33 {a : Nat} : az_p107 C Q (33, lv, .ref a :: st, h) ↔ az_mf (h.1 a) 8 18 (fun v => az_p107 C Q (36, lv, v :: st, h)) := az_wp_iff.trans az_go_gf
theorem az_s107_36 {a : Nat} : az_p107 C Q (36, lv, .ref a :: st, h) ↔ az_mf (h.1 a) 4 1 (fun v => az_p107 C Q (39, lv, v :: st, h)) := az_wp_iff.trans az_go_gf
theorem az_s107_39 {a : Nat} {v1 v2 : Value} : az_p107 C Q (39, lv, v2 :: v1 :: .ref a :: st, h) ↔ az_isob (h.1 a) 5 = true ∧ az_cat st ≤ 8 ∧ az_mc C 50 [.ref a, v1, v2] h (fun v h' => az_p107 C Q (42, lv, v ++ st, h')) := az_wp_iff.trans (az_go_if.trans (and_congr Iff.rfl az_go_call))
theorem az_s107_42 : az_p107 C Q (42, lv, st, h) ↔ az_ma (lv 1) (fun x => az_p107 C Q (43, lv, x :: st, h)) := az_wp_iff.trans az_go_lda
theorem az_s107_43 {a : Nat} : az_p107 C Q (43, lv, .ref a :: st, h) ↔ az_mf (h.1 a) 8 18 (fun v => az_p107 C Q (46, lv, v :: st, h)) := az_wp_iff.trans az_go_gf
theorem az_s107_46 : az_p107 C Q (46, lv, st, h) ↔ az_p107 C Q (47, lv, .int (Int32.ofInt (-1)) :: st, h) := az_wp_iff
theorem az_s107_47 {a : Nat} {v : Value} : az_p107 C Q (47, lv, v :: .ref a :: st, h) ↔ az_mp (h.1 a) 4 1 0 v (fun c => az_p107 C Q (50, lv, st, az_uh h a c)) := az_wp_iff.trans az_go_pf
theorem az_s107_50 : az_p107 C Q (50, lv, [], h) ↔ Q none h := az_wp_iff
def az_p108 (C : az_Cl) (Q : Option Value → az_H → Prop) : az_S → Prop := az_wp C (fun _ => none) none (az_fn az_k108) Q
theorem az_s108_0 : az_p108 C Q (0, lv, st, h) ↔ az_ma (lv 1) (fun x => az_p108 C Q (1, lv, x :: st, h)) := az_wp_iff.trans az_go_lda
theorem az_s108_1 {a : Nat} : az_p108 C Q (1, lv, .ref a :: st, h) ↔ az_mf (h.1 a) 8 18 (fun v => az_p108 C Q (4, lv, v :: st, h)) := az_wp_iff.trans az_go_gf
theorem az_s108_4 {a : Nat} : az_p108 C Q (4, lv, .ref a :: st, h) ↔ az_mf (h.1 a) 4 0 (fun v => az_p108 C Q (7, lv, v :: st, h)) := az_wp_iff.trans az_go_gf
theorem az_s108_7 {x : Int32} : az_p108 C Q (7, lv, .int x :: st, h) ↔ az_p108 C Q (8, (az_s1 lv 2 (.int x)), st, h) := az_wp_iff
theorem az_s108_8 : az_p108 C Q (8, lv, st, h) ↔ az_ma (lv 0) (fun x => az_p108 C Q (9, lv, x :: st, h)) := az_wp_iff.trans az_go_lda
theorem az_s108_9 {a : Nat} : az_p108 C Q (9, lv, .ref a :: st, h) ↔ az_mf (h.1 a) 9 0 (fun v => az_p108 C Q (12, lv, v :: st, h)) := az_wp_iff.trans az_go_gf
theorem az_s108_12 : az_p108 C Q (12, lv, st, h) ↔ az_mi (lv 2) (fun x => az_p108 C Q (13, lv, .int x :: st, h)) := az_wp_iff.trans az_go_ldi
theorem az_s108_13 {a : Nat} {v1 : Value} : az_p108 C Q (13, lv, v1 :: .ref a :: st, h) ↔ az_isob (h.1 a) 5 = true ∧ az_cat st ≤ 8 ∧ az_mc C 41 [.ref a, v1] h (fun v h' => az_p108 C Q (16, lv, v ++ st, h')) := az_wp_iff.trans (az_go_if.trans (and_congr Iff.rfl az_go_call))
theorem az_s108_16 {x : Int32} : az_p108 C Q (16, lv, .int x :: st, h) ↔ az_p108 C Q (17, (az_s1 lv 3 (.int x)), st, h) := az_wp_iff
theorem az_s108_17 : az_p108 C Q (17, lv, st, h) ↔ az_ma (lv 1) (fun x => az_p108 C Q (18, lv, x :: st, h)) := az_wp_iff.trans az_go_lda
theorem az_s108_18 {a : Nat} : az_p108 C Q (18, lv, .ref a :: st, h) ↔ az_mf (h.1 a) 8 2 (fun v => az_p108 C Q (21, lv, v :: st, h)) := az_wp_iff.trans az_go_gf
theorem az_s108_21 {x : Int32} : az_p108 C Q (21, lv, .int x :: st, h) ↔ (x ≤ 0 → az_p108 C Q (82, lv, st, h)) ∧ (¬ x ≤ 0 → az_p108 C Q (24, lv, st, h)) := az_wp_iff.trans (az_go_if1 az_d_eq)
theorem az_s108_24 : az_p108 C Q (24, lv, st, h) ↔ az_ma (lv 1) (fun x => az_p108 C Q (25, lv, x :: st, h)) := az_wp_iff.trans az_go_lda
theorem az_s108_25 : az_p108 C Q (25, lv, st, h) ↔ az_mi (lv 3) (fun x => az_p108 C Q (26, lv, .int x :: st, h)) := az_wp_iff.trans az_go_ldi
theorem az_s108_26 {a : Nat} {v1 : Value} : az_p108 C Q (26, lv, v1 :: .ref a :: st, h) ↔ az_isob (h.1 a) 8 = true ∧ az_cat st ≤ 8 ∧ az_mc C 97 [.ref a, v1] h (fun v h' => az_p108 C Q (29, lv, v ++ st, h')) := az_wp_iff.trans (az_go_if.trans (and_congr Iff.rfl az_go_call))
theorem az_s108_29 {x : Int32} : az_p108 C Q (29, lv, .int x :: st, h) ↔ az_p108 C Q (30, lv, .long x.toInt64 :: st, h) := az_wp_iff
theorem az_s108_30 : az_p108 C Q (30, lv, st, h) ↔ az_ma (lv 0) (fun x => az_p108 C Q (31, lv, x :: st, h)) := az_wp_iff.trans az_go_lda
theorem az_s108_31 {a : Nat} : az_p108 C Q (31, lv, .ref a :: st, h) ↔ az_mf (h.1 a) 9 0 (fun v => az_p108 C Q (34, lv, v :: st, h)) := az_wp_iff.trans az_go_gf
theorem az_s108_34 : az_p108 C Q (34, lv, st, h) ↔ az_mi (lv 2) (fun x => az_p108 C Q (35, lv, .int x :: st, h)) := az_wp_iff.trans az_go_ldi
theorem az_s108_35 {a : Nat} {v1 : Value} : az_p108 C Q (35, lv, v1 :: .ref a :: st, h) ↔ az_isob (h.1 a) 5 = true ∧ az_cat st ≤ 8 ∧ az_mc C 40 [.ref a, v1] h (fun v h' => az_p108 C Q (38, lv, v ++ st, h')) := az_wp_iff.trans (az_go_if.trans (and_congr Iff.rfl az_go_call))
theorem az_s108_38 {x : Int32} : az_p108 C Q (38, lv, .int x :: st, h) ↔ az_p108 C Q (39, lv, .long x.toInt64 :: st, h) := az_wp_iff
theorem az_s108_39 {x y : Int64} : az_p108 C Q (39, lv, .long y :: .long x :: st, h) ↔ az_p108 C Q (40, lv, .long (x + y) :: st, h) := az_wp_iff
theorem az_s108_40 {x : Int64} : az_p108 C Q (40, lv, .long x :: st, h) ↔ az_p108 C Q (42, (az_s2 lv 4 (.long x)), st, h) := az_wp_iff
theorem az_s108_42 : az_p108 C Q (42, lv, st, h) ↔ az_ml (lv 4) (fun x => az_p108 C Q (44, lv, .long x :: st, h)) := az_wp_iff.trans az_go_ldl
theorem az_s108_44 : az_p108 C Q (44, lv, st, h) ↔ az_ma (lv 1) (fun x => az_p108 C Q (45, lv, x :: st, h)) := az_wp_iff.trans az_go_lda
theorem az_s108_45 {a : Nat} : az_p108 C Q (45, lv, .ref a :: st, h) ↔ az_mf (h.1 a) 8 2 (fun v => az_p108 C Q (48, lv, v :: st, h)) := az_wp_iff.trans az_go_gf
theorem az_s108_48 {x : Int32} : az_p108 C Q (48, lv, .int x :: st, h) ↔ az_p108 C Q (49, lv, .long x.toInt64 :: st, h) := az_wp_iff
theorem az_s108_49 {x y : Int64} : az_p108 C Q (49, lv, .long y :: .long x :: st, h) ↔ ¬ y = 0 ∧ az_p108 C Q (50, lv, .long (x / y) :: st, h) := az_wp_iff.trans az_go_ldv
theorem az_s108_50 {x : Int64} : az_p108 C Q (50, lv, .long x :: st, h) ↔ az_p108 C Q (52, (az_s2 lv 6 (.long x)), st, h) := az_wp_iff
theorem az_s108_52 : az_p108 C Q (52, lv, st, h) ↔ az_ma (lv 0) (fun x => az_p108 C Q (53, lv, x :: st, h)) := az_wp_iff.trans az_go_lda
theorem az_s108_53 {a : Nat} : az_p108 C Q (53, lv, .ref a :: st, h) ↔ az_mf (h.1 a) 9 1 (fun v => az_p108 C Q (56, lv, v :: st, h)) := az_wp_iff.trans az_go_gf
theorem az_s108_56 : az_p108 C Q (56, lv, st, h) ↔ az_mi (lv 3) (fun x => az_p108 C Q (57, lv, .int x :: st, h)) := az_wp_iff.trans az_go_ldi
theorem az_s108_57 : az_p108 C Q (57, lv, st, h) ↔ az_ml (lv 6) (fun x => az_p108 C Q (59, lv, .long x :: st, h)) := az_wp_iff.trans az_go_ldl
theorem az_s108_59 : az_p108 C Q (59, lv, st, h) ↔ az_ma (lv 1) (fun x => az_p108 C Q (60, lv, x :: st, h)) := az_wp_iff.trans az_go_lda
theorem az_s108_60 {a : Nat} : az_p108 C Q (60, lv, .ref a :: st, h) ↔ az_mf (h.1 a) 8 2 (fun v => az_p108 C Q (63, lv, v :: st, h)) := az_wp_iff.trans az_go_gf
theorem az_s108_63 {a : Nat} {v1 v2 v3 : Value} : az_p108 C Q (63, lv, v3 :: v2 :: v1 :: .ref a :: st, h) ↔ az_isob (h.1 a) 3 = true ∧ az_cat st ≤ 8 ∧ az_mc C 25 [.ref a, v1, v2, v3] h (fun v h' => az_p108 C Q (66, lv, v ++ st, h')) := az_wp_iff.trans (az_go_if.trans (and_congr Iff.rfl az_go_call))
theorem az_s108_66 : az_p108 C Q (66, lv, st, h) ↔ az_ma (lv 1) (fun x => az_p108 C Q (67, lv, x :: st, h)) := az_wp_iff.trans az_go_lda
theorem az_s108_67 : az_p108 C Q (67, lv, st, h) ↔ az_mi (lv 3) (fun x => az_p108 C Q (68, lv, .int x :: st, h)) := az_wp_iff.trans az_go_ldi
theorem az_s108_68 : az_p108 C Q (68, lv, st, h) ↔ az_ml (lv 4) (fun x => az_p108 C Q (70, lv, .long x :: st, h)) := az_wp_iff.trans az_go_ldl
theorem az_s108_70 : az_p108 C Q (70, lv, st, h) ↔ az_ml (lv 6) (fun x => az_p108 C Q (72, lv, .long x :: st, h)) := az_wp_iff.trans az_go_ldl
theorem az_s108_72 : az_p108 C Q (72, lv, st, h) ↔ az_ma (lv 1) (fun x => az_p108 C Q (73, lv, x :: st, h)) := az_wp_iff.trans az_go_lda
theorem az_s108_73 {a : Nat} : az_p108 C Q (73, lv, .ref a :: st, h) ↔ az_mf (h.1 a) 8 2 (fun v => az_p108 C Q (76, lv, v :: st, h)) := az_wp_iff.trans az_go_gf
theorem az_s108_76 {x : Int32} : az_p108 C Q (76, lv, .int x :: st, h) ↔ az_p108 C Q (77, lv, .long x.toInt64 :: st, h) := az_wp_iff
theorem az_s108_77 {x y : Int64} : az_p108 C Q (77, lv, .long y :: .long x :: st, h) ↔ az_p108 C Q (78, lv, .long (x * y) :: st, h) := az_wp_iff
theorem az_s108_78 {x y : Int64} : az_p108 C Q (78, lv, .long y :: .long x :: st, h) ↔ az_p108 C Q (79, lv, .long (x - y) :: st, h) := az_wp_iff
theorem az_s108_79 {a : Nat} {v1 v2 : Value} : az_p108 C Q (79, lv, v2 :: v1 :: .ref a :: st, h) ↔ az_isob (h.1 a) 8 = true ∧ az_cat st ≤ 8 ∧ az_mc C 98 [.ref a, v1, v2] h (fun v h' => az_p108 C Q (82, lv, v ++ st, h')) := az_wp_iff.trans (az_go_if.trans (and_congr Iff.rfl az_go_call))
theorem az_s108_82 : az_p108 C Q (82, lv, st, h) ↔ az_ma (lv 1) (fun x => az_p108 C Q (83, lv, x :: st, h)) := az_wp_iff.trans az_go_lda
theorem az_s108_83 {a : Nat} : az_p108 C Q (83, lv, .ref a :: st, h) ↔ az_mf (h.1 a) 8 18 (fun v => az_p108 C Q (86, lv, v :: st, h)) := az_wp_iff.trans az_go_gf
theorem az_s108_86 {a : Nat}  : az_p108 C Q (86, lv, .ref a :: st, h) ↔ az_isob (h.1 a) 4 = true ∧ az_cat st ≤ 8 ∧ az_mc C 31 [.ref a] h (fun v h' => az_p108 C Q (89, lv, v ++ st, h')) := az_wp_iff.trans (az_go_if.trans (and_congr Iff.rfl az_go_call))
theorem az_s108_89 : az_p108 C Q (89, lv, [], h) ↔ Q none h := az_wp_iff
def az_p109 (C : az_Cl) (Q : Option Value → az_H → Prop) : az_S → Prop := az_wp C (fun _ => none) none (az_fn az_k109) Q
theorem az_s109_0 : az_p109 C Q (0, lv, st, h) ↔ az_ma (lv 0) (fun x => az_p109 C Q (1, lv, x :: st, h)) := az_wp_iff.trans az_go_lda
theorem az_s109_1 {a : Nat} : az_p109 C Q (1, lv, .ref a :: st, h) ↔ az_cat st ≤ 8 ∧ az_p109 C Q (4, lv, st, h) := az_wp_iff.trans az_go_if
theorem az_s109_4 : az_p109 C Q (4, lv, st, h) ↔ az_ma (lv 0) (fun x => az_p109 C Q (5, lv, x :: st, h)) := az_wp_iff.trans az_go_lda
theorem az_s109_5 : az_p109 C Q (5, lv, st, h) ↔ az_p109 C Q (8, lv, .ref h.2.1 :: st, az_nw h (az_ob 2 (az_z 2)) 3) := az_wp_iff
theorem az_s109_8 {x : Int32} : az_p109 C Q (8, lv, .int x :: st, h) ↔ az_p109 C Q (9, lv, .int x :: .int x :: st, h) := az_wp_iff
theorem az_s109_8r {x : Nat} : az_p109 C Q (8, lv, .ref x :: st, h) ↔ az_p109 C Q (9, lv, .ref x :: .ref x :: st, h) := az_wp_iff
theorem az_s109_9 {a : Nat}  : az_p109 C Q (9, lv, .ref a :: st, h) ↔ az_cat st ≤ 8 ∧ az_mc C 12 [.ref a] h (fun v h' => az_p109 C Q (12, lv, v ++ st, h')) := az_wp_iff.trans az_go_call
theorem az_s109_12 {a : Nat} {v : Value} : az_p109 C Q (12, lv, v :: .ref a :: st, h) ↔ az_mp (h.1 a) 10 0 3 v (fun c => az_p109 C Q (15, lv, st, az_uh h a c)) := az_wp_iff.trans az_go_pf
theorem az_s109_15 : az_p109 C Q (15, lv, st, h) ↔ az_ma (lv 0) (fun x => az_p109 C Q (16, lv, x :: st, h)) := az_wp_iff.trans az_go_lda
theorem az_s109_16 : az_p109 C Q (16, lv, st, h) ↔ az_p109 C Q (19, lv, .ref h.2.1 :: st, az_nw h (az_ob 5 (az_z 5)) 5) := az_wp_iff
theorem az_s109_19 {x : Int32} : az_p109 C Q (19, lv, .int x :: st, h) ↔ az_p109 C Q (20, lv, .int x :: .int x :: st, h) := az_wp_iff
theorem az_s109_19r {x : Nat} : az_p109 C Q (19, lv, .ref x :: st, h) ↔ az_p109 C Q (20, lv, .ref x :: .ref x :: st, h) := az_wp_iff
theorem az_s109_20 {a : Nat}  : az_p109 C Q (20, lv, .ref a :: st, h) ↔ az_cat st ≤ 8 ∧ az_mc C 37 [.ref a] h (fun v h' => az_p109 C Q (23, lv, v ++ st, h')) := az_wp_iff.trans az_go_call
theorem az_s109_23 {a : Nat} {v : Value} : az_p109 C Q (23, lv, v :: .ref a :: st, h) ↔ az_mp (h.1 a) 10 1 3 v (fun c => az_p109 C Q (26, lv, st, az_uh h a c)) := az_wp_iff.trans az_go_pf
theorem az_s109_26 : az_p109 C Q (26, lv, st, h) ↔ az_ma (lv 0) (fun x => az_p109 C Q (27, lv, x :: st, h)) := az_wp_iff.trans az_go_lda
theorem az_s109_27 : az_p109 C Q (27, lv, st, h) ↔ az_p109 C Q (30, lv, .ref h.2.1 :: st, az_nw h (az_ob 3 (az_z 3)) 8) := az_wp_iff
theorem az_s109_30 {x : Int32} : az_p109 C Q (30, lv, .int x :: st, h) ↔ az_p109 C Q (31, lv, .int x :: .int x :: st, h) := az_wp_iff
theorem az_s109_30r {x : Nat} : az_p109 C Q (30, lv, .ref x :: st, h) ↔ az_p109 C Q (31, lv, .ref x :: .ref x :: st, h) := az_wp_iff
theorem az_s109_31 {a : Nat}  : az_p109 C Q (31, lv, .ref a :: st, h) ↔ az_cat st ≤ 8 ∧ az_mc C 23 [.ref a] h (fun v h' => az_p109 C Q (34, lv, v ++ st, h')) := az_wp_iff.trans az_go_call
theorem az_s109_34 {a : Nat} {v : Value} : az_p109 C Q (34, lv, v :: .ref a :: st, h) ↔ az_mp (h.1 a) 10 2 3 v (fun c => az_p109 C Q (37, lv, st, az_uh h a c)) := az_wp_iff.trans az_go_pf
theorem az_s109_37 : az_p109 C Q (37, lv, st, h) ↔ az_ma (lv 0) (fun x => az_p109 C Q (38, lv, x :: st, h)) := az_wp_iff.trans az_go_lda
theorem az_s109_38 : az_p109 C Q (38, lv, st, h) ↔ az_p109 C Q (41, lv, .ref h.2.1 :: st, az_nw h (az_ob 1 (az_z 1)) 5) := az_wp_iff
theorem az_s109_41 {x : Int32} : az_p109 C Q (41, lv, .int x :: st, h) ↔ az_p109 C Q (42, lv, .int x :: .int x :: st, h) := az_wp_iff
theorem az_s109_41r {x : Nat} : az_p109 C Q (41, lv, .ref x :: st, h) ↔ az_p109 C Q (42, lv, .ref x :: .ref x :: st, h) := az_wp_iff
theorem az_s109_42 {a : Nat}  : az_p109 C Q (42, lv, .ref a :: st, h) ↔ az_cat st ≤ 8 ∧ az_mc C 8 [.ref a] h (fun v h' => az_p109 C Q (45, lv, v ++ st, h')) := az_wp_iff.trans az_go_call
theorem az_s109_45 {a : Nat} {v : Value} : az_p109 C Q (45, lv, v :: .ref a :: st, h) ↔ az_mp (h.1 a) 10 3 3 v (fun c => az_p109 C Q (48, lv, st, az_uh h a c)) := az_wp_iff.trans az_go_pf
theorem az_s109_48 : az_p109 C Q (48, lv, st, h) ↔ az_ma (lv 0) (fun x => az_p109 C Q (49, lv, x :: st, h)) := az_wp_iff.trans az_go_lda
theorem az_s109_49 : az_p109 C Q (49, lv, st, h) ↔ az_p109 C Q (52, lv, .ref h.2.1 :: st, az_nw h (az_ob 7 (az_z 7)) 6) := az_wp_iff
theorem az_s109_52 {x : Int32} : az_p109 C Q (52, lv, .int x :: st, h) ↔ az_p109 C Q (53, lv, .int x :: .int x :: st, h) := az_wp_iff
theorem az_s109_52r {x : Nat} : az_p109 C Q (52, lv, .ref x :: st, h) ↔ az_p109 C Q (53, lv, .ref x :: .ref x :: st, h) := az_wp_iff
theorem az_s109_53 : az_p109 C Q (53, lv, st, h) ↔ az_ma (lv 0) (fun x => az_p109 C Q (54, lv, x :: st, h)) := az_wp_iff.trans az_go_lda
theorem az_s109_54 {a : Nat} : az_p109 C Q (54, lv, .ref a :: st, h) ↔ az_mf (h.1 a) 10 0 (fun v => az_p109 C Q (57, lv, v :: st, h)) := az_wp_iff.trans az_go_gf
theorem az_s109_57 : az_p109 C Q (57, lv, st, h) ↔ az_ma (lv 0) (fun x => az_p109 C Q (58, lv, x :: st, h)) := az_wp_iff.trans az_go_lda
theorem az_s109_58 {a : Nat} : az_p109 C Q (58, lv, .ref a :: st, h) ↔ az_mf (h.1 a) 10 1 (fun v => az_p109 C Q (61, lv, v :: st, h)) := az_wp_iff.trans az_go_gf
theorem az_s109_61 : az_p109 C Q (61, lv, st, h) ↔ az_ma (lv 0) (fun x => az_p109 C Q (62, lv, x :: st, h)) := az_wp_iff.trans az_go_lda
theorem az_s109_62 {a : Nat} : az_p109 C Q (62, lv, .ref a :: st, h) ↔ az_mf (h.1 a) 10 2 (fun v => az_p109 C Q (65, lv, v :: st, h)) := az_wp_iff.trans az_go_gf
theorem az_s109_65 : az_p109 C Q (65, lv, st, h) ↔ az_ma (lv 0) (fun x => az_p109 C Q (66, lv, x :: st, h)) := az_wp_iff.trans az_go_lda
theorem az_s109_66 {a : Nat} : az_p109 C Q (66, lv, .ref a :: st, h) ↔ az_mf (h.1 a) 10 3 (fun v => az_p109 C Q (69, lv, v :: st, h)) := az_wp_iff.trans az_go_gf
theorem az_s109_69 {a : Nat} {v1 v2 v3 v4 : Value} : az_p109 C Q (69, lv, v4 :: v3 :: v2 :: v1 :: .ref a :: st, h) ↔ az_cat st ≤ 8 ∧ az_mc C 61 [.ref a, v1, v2, v3, v4] h (fun v h' => az_p109 C Q (72, lv, v ++ st, h')) := az_wp_iff.trans az_go_call
theorem az_s109_72 {a : Nat} {v : Value} : az_p109 C Q (72, lv, v :: .ref a :: st, h) ↔ az_mp (h.1 a) 10 4 3 v (fun c => az_p109 C Q (75, lv, st, az_uh h a c)) := az_wp_iff.trans az_go_pf
theorem az_s109_75 : az_p109 C Q (75, lv, st, h) ↔ az_ma (lv 0) (fun x => az_p109 C Q (76, lv, x :: st, h)) := az_wp_iff.trans az_go_lda
theorem az_s109_76 : az_p109 C Q (76, lv, st, h) ↔ az_p109 C Q (79, lv, .ref h.2.1 :: st, az_nw h (az_ob 6 (az_z 6)) 4) := az_wp_iff
theorem az_s109_79 {x : Int32} : az_p109 C Q (79, lv, .int x :: st, h) ↔ az_p109 C Q (80, lv, .int x :: .int x :: st, h) := az_wp_iff
theorem az_s109_79r {x : Nat} : az_p109 C Q (79, lv, .ref x :: st, h) ↔ az_p109 C Q (80, lv, .ref x :: .ref x :: st, h) := az_wp_iff
theorem az_s109_80 {a : Nat}  : az_p109 C Q (80, lv, .ref a :: st, h) ↔ az_cat st ≤ 8 ∧ az_mc C 53 [.ref a] h (fun v h' => az_p109 C Q (83, lv, v ++ st, h')) := az_wp_iff.trans az_go_call
theorem az_s109_83 {a : Nat} {v : Value} : az_p109 C Q (83, lv, v :: .ref a :: st, h) ↔ az_mp (h.1 a) 10 5 3 v (fun c => az_p109 C Q (86, lv, st, az_uh h a c)) := az_wp_iff.trans az_go_pf
theorem az_s109_86 : az_p109 C Q (86, lv, [], h) ↔ Q none h := az_wp_iff
def az_p110 (C : az_Cl) (Q : Option Value → az_H → Prop) : az_S → Prop := az_wp C (fun _ => none) (some .boolean) (az_fn az_k110) Q
theorem az_s110_0 : az_p110 C Q (0, lv, st, h) ↔ az_ma (lv 0) (fun x => az_p110 C Q (1, lv, x :: st, h)) := az_wp_iff.trans az_go_lda
theorem az_s110_1 {a : Nat} : az_p110 C Q (1, lv, .ref a :: st, h) ↔ az_mf (h.1 a) 10 6 (fun v => az_p110 C Q (4, lv, v :: st, h)) := az_wp_iff.trans az_go_gf
theorem az_s110_4 {x : Int32} : az_p110 C Q (4, lv, .int x :: st, h) ↔ (¬ x = 0 → az_p110 C Q (23, lv, st, h)) ∧ (¬ ¬ x = 0 → az_p110 C Q (7, lv, st, h)) := az_wp_iff.trans (az_go_if1 az_d_eq)
theorem az_s110_7 : az_p110 C Q (7, lv, st, h) ↔ az_ma (lv 0) (fun x => az_p110 C Q (8, lv, x :: st, h)) := az_wp_iff.trans az_go_lda
theorem az_s110_8 {a : Nat} : az_p110 C Q (8, lv, .ref a :: st, h) ↔ az_mf (h.1 a) 10 0 (fun v => az_p110 C Q (11, lv, v :: st, h)) := az_wp_iff.trans az_go_gf
theorem az_s110_11 : az_p110 C Q (11, lv, st, h) ↔ az_mi (lv 1) (fun x => az_p110 C Q (12, lv, .int x :: st, h)) := az_wp_iff.trans az_go_ldi
theorem az_s110_12 : az_p110 C Q (12, lv, st, h) ↔ az_mi (lv 2) (fun x => az_p110 C Q (13, lv, .int x :: st, h)) := az_wp_iff.trans az_go_ldi
theorem az_s110_13 {a : Nat} {v1 v2 : Value} : az_p110 C Q (13, lv, v2 :: v1 :: .ref a :: st, h) ↔ az_isob (h.1 a) 2 = true ∧ az_cat st ≤ 8 ∧ az_mc C 15 [.ref a, v1, v2] h (fun v h' => az_p110 C Q (16, lv, v ++ st, h')) := az_wp_iff.trans (az_go_if.trans (and_congr Iff.rfl az_go_call))
theorem az_s110_16 {x : Int32} : az_p110 C Q (16, lv, .int x :: st, h) ↔ (x = 0 → az_p110 C Q (23, lv, st, h)) ∧ (¬ x = 0 → az_p110 C Q (19, lv, st, h)) := az_wp_iff.trans (az_go_if1 az_d_eq)
theorem az_s110_19 : az_p110 C Q (19, lv, st, h) ↔ az_p110 C Q (20, lv, .int (Int32.ofInt (1)) :: st, h) := az_wp_iff
theorem az_s110_20 : az_p110 C Q (20, lv, st, h) ↔ az_p110 C Q (24, lv, st, h) := az_wp_iff
theorem az_s110_23 : az_p110 C Q (23, lv, st, h) ↔ az_p110 C Q (24, lv, .int (Int32.ofInt (0)) :: st, h) := az_wp_iff
theorem az_s110_24 {x : Int32} : az_p110 C Q (24, lv, [.int x], h) ↔ (x = 0 ∨ x = 1) ∧ Q (some (.int x)) h := az_wp_iff.trans az_go_if
def az_p111 (C : az_Cl) (Q : Option Value → az_H → Prop) : az_S → Prop := az_wp C (fun _ => none) (some .boolean) (az_fn az_k111) Q
theorem az_s111_0 : az_p111 C Q (0, lv, st, h) ↔ az_ma (lv 0) (fun x => az_p111 C Q (1, lv, x :: st, h)) := az_wp_iff.trans az_go_lda
theorem az_s111_1 {a : Nat} : az_p111 C Q (1, lv, .ref a :: st, h) ↔ az_mf (h.1 a) 10 6 (fun v => az_p111 C Q (4, lv, v :: st, h)) := az_wp_iff.trans az_go_gf
theorem az_s111_4 {x : Int32} : az_p111 C Q (4, lv, .int x :: st, h) ↔ (¬ x = 0 → az_p111 C Q (26, lv, st, h)) ∧ (¬ ¬ x = 0 → az_p111 C Q (7, lv, st, h)) := az_wp_iff.trans (az_go_if1 az_d_eq)
theorem az_s111_7 : az_p111 C Q (7, lv, st, h) ↔ az_ma (lv 0) (fun x => az_p111 C Q (8, lv, x :: st, h)) := az_wp_iff.trans az_go_lda
theorem az_s111_8 {a : Nat} : az_p111 C Q (8, lv, .ref a :: st, h) ↔ az_mf (h.1 a) 10 0 (fun v => az_p111 C Q (11, lv, v :: st, h)) := az_wp_iff.trans az_go_gf
theorem az_s111_11 : az_p111 C Q (11, lv, st, h) ↔ az_mi (lv 1) (fun x => az_p111 C Q (12, lv, .int x :: st, h)) := az_wp_iff.trans az_go_ldi
theorem az_s111_12 : az_p111 C Q (12, lv, st, h) ↔ az_mi (lv 2) (fun x => az_p111 C Q (13, lv, .int x :: st, h)) := az_wp_iff.trans az_go_ldi
theorem az_s111_13 : az_p111 C Q (13, lv, st, h) ↔ az_mi (lv 3) (fun x => az_p111 C Q (14, lv, .int x :: st, h)) := az_wp_iff.trans az_go_ldi
theorem az_s111_14 : az_p111 C Q (14, lv, st, h) ↔ az_mi (lv 4) (fun x => az_p111 C Q (16, lv, .int x :: st, h)) := az_wp_iff.trans az_go_ldi
theorem az_s111_16 {a : Nat} {v1 v2 v3 v4 : Value} : az_p111 C Q (16, lv, v4 :: v3 :: v2 :: v1 :: .ref a :: st, h) ↔ az_isob (h.1 a) 2 = true ∧ az_cat st ≤ 8 ∧ az_mc C 16 [.ref a, v1, v2, v3, v4] h (fun v h' => az_p111 C Q (19, lv, v ++ st, h')) := az_wp_iff.trans (az_go_if.trans (and_congr Iff.rfl az_go_call))
theorem az_s111_19 {x : Int32} : az_p111 C Q (19, lv, .int x :: st, h) ↔ (x = 0 → az_p111 C Q (26, lv, st, h)) ∧ (¬ x = 0 → az_p111 C Q (22, lv, st, h)) := az_wp_iff.trans (az_go_if1 az_d_eq)
theorem az_s111_22 : az_p111 C Q (22, lv, st, h) ↔ az_p111 C Q (23, lv, .int (Int32.ofInt (1)) :: st, h) := az_wp_iff
theorem az_s111_23 : az_p111 C Q (23, lv, st, h) ↔ az_p111 C Q (27, lv, st, h) := az_wp_iff
theorem az_s111_26 : az_p111 C Q (26, lv, st, h) ↔ az_p111 C Q (27, lv, .int (Int32.ofInt (0)) :: st, h) := az_wp_iff
theorem az_s111_27 {x : Int32} : az_p111 C Q (27, lv, [.int x], h) ↔ (x = 0 ∨ x = 1) ∧ Q (some (.int x)) h := az_wp_iff.trans az_go_if
def az_p112 (C : az_Cl) (Q : Option Value → az_H → Prop) : az_S → Prop := az_wp C (fun _ => none) (some .int) (az_fn az_k112) Q
theorem az_s112_0 : az_p112 C Q (0, lv, st, h) ↔ az_ma (lv 0) (fun x => az_p112 C Q (1, lv, x :: st, h)) := az_wp_iff.trans az_go_lda
theorem az_s112_1 {a : Nat} : az_p112 C Q (1, lv, .ref a :: st, h) ↔ az_mf (h.1 a) 10 0 (fun v => az_p112 C Q (4, lv, v :: st, h)) := az_wp_iff.trans az_go_gf
theorem az_s112_4 : az_p112 C Q (4, lv, st, h) ↔ az_mi (lv 1) (fun x => az_p112 C Q (5, lv, .int x :: st, h)) := az_wp_iff.trans az_go_ldi
theorem az_s112_5 {a : Nat} {v1 : Value} : az_p112 C Q (5, lv, v1 :: .ref a :: st, h) ↔ az_isob (h.1 a) 2 = true ∧ az_cat st ≤ 8 ∧ az_mc C 14 [.ref a, v1] h (fun v h' => az_p112 C Q (8, lv, v ++ st, h')) := az_wp_iff.trans (az_go_if.trans (and_congr Iff.rfl az_go_call))
theorem az_s112_8 {x : Nat} : az_p112 C Q (8, lv, .ref x :: st, h) ↔ az_p112 C Q (9, (az_s1 lv 3 (.ref x)), st, h) := az_wp_iff
theorem az_s112_8n : az_p112 C Q (8, lv, .null :: st, h) ↔ az_p112 C Q (9, (az_s1 lv 3 .null), st, h) := az_wp_iff
theorem az_s112_9 : az_p112 C Q (9, lv, st, h) ↔ az_ma (lv 0) (fun x => az_p112 C Q (10, lv, x :: st, h)) := az_wp_iff.trans az_go_lda
theorem az_s112_10 {a : Nat} : az_p112 C Q (10, lv, .ref a :: st, h) ↔ az_mf (h.1 a) 10 6 (fun v => az_p112 C Q (13, lv, v :: st, h)) := az_wp_iff.trans az_go_gf
theorem az_s112_13 {x : Int32} : az_p112 C Q (13, lv, .int x :: st, h) ↔ (¬ x = 0 → az_p112 C Q (31, lv, st, h)) ∧ (¬ ¬ x = 0 → az_p112 C Q (16, lv, st, h)) := az_wp_iff.trans (az_go_if1 az_d_eq)
theorem az_s112_16 : az_p112 C Q (16, lv, st, h) ↔ az_ma (lv 3) (fun x => az_p112 C Q (17, lv, x :: st, h)) := az_wp_iff.trans az_go_lda
theorem az_s112_17n : az_p112 C Q (17, lv, .null :: st, h) ↔ az_p112 C Q (31, lv, st, h) := az_wp_iff
theorem az_s112_17 {x : Nat} : az_p112 C Q (17, lv, .ref x :: st, h) ↔ az_p112 C Q (20, lv, st, h) := az_wp_iff
theorem az_s112_20 : az_p112 C Q (20, lv, st, h) ↔ az_ma (lv 0) (fun x => az_p112 C Q (21, lv, x :: st, h)) := az_wp_iff.trans az_go_lda
theorem az_s112_21 {a : Nat} : az_p112 C Q (21, lv, .ref a :: st, h) ↔ az_mf (h.1 a) 10 0 (fun v => az_p112 C Q (24, lv, v :: st, h)) := az_wp_iff.trans az_go_gf
theorem az_s112_24 : az_p112 C Q (24, lv, st, h) ↔ az_mi (lv 2) (fun x => az_p112 C Q (25, lv, .int x :: st, h)) := az_wp_iff.trans az_go_ldi
theorem az_s112_25 {a : Nat} {v1 : Value} : az_p112 C Q (25, lv, v1 :: .ref a :: st, h) ↔ az_isob (h.1 a) 2 = true ∧ az_cat st ≤ 8 ∧ az_mc C 13 [.ref a, v1] h (fun v h' => az_p112 C Q (28, lv, v ++ st, h')) := az_wp_iff.trans (az_go_if.trans (and_congr Iff.rfl az_go_call))
theorem az_s112_28n : az_p112 C Q (28, lv, .null :: st, h) ↔ az_p112 C Q (31, lv, st, h) := az_wp_iff
theorem az_s112_28 {x : Nat} : az_p112 C Q (28, lv, .ref x :: st, h) ↔ az_p112 C Q (33, lv, st, h) := az_wp_iff
theorem az_s112_31 : az_p112 C Q (31, lv, st, h) ↔ az_p112 C Q (32, lv, .int (Int32.ofInt (-1)) :: st, h) := az_wp_iff
theorem az_s112_32 {x : Int32} : az_p112 C Q (32, lv, [.int x], h) ↔ Q (some (.int x)) h := az_wp_iff
theorem az_s112_33 : az_p112 C Q (33, lv, st, h) ↔ az_ma (lv 3) (fun x => az_p112 C Q (34, lv, x :: st, h)) := az_wp_iff.trans az_go_lda
theorem az_s112_34 : az_p112 C Q (34, lv, st, h) ↔ az_mi (lv 2) (fun x => az_p112 C Q (35, lv, .int x :: st, h)) := az_wp_iff.trans az_go_ldi
theorem az_s112_35 {a : Nat} {v1 : Value} : az_p112 C Q (35, lv, v1 :: .ref a :: st, h) ↔ az_isob (h.1 a) 8 = true ∧ az_cat st ≤ 8 ∧ az_mc C 83 [.ref a, v1] h (fun v h' => az_p112 C Q (38, lv, v ++ st, h')) := az_wp_iff.trans (az_go_if.trans (and_congr Iff.rfl az_go_call))
theorem az_s112_38 {x : Int32} : az_p112 C Q (38, lv, [.int x], h) ↔ Q (some (.int x)) h := az_wp_iff
def az_p113 (C : az_Cl) (Q : Option Value → az_H → Prop) : az_S → Prop := az_wp C (fun _ => none) (some .int) (az_fn az_k113) Q
theorem az_s113_0 : az_p113 C Q (0, lv, st, h) ↔ az_ma (lv 0) (fun x => az_p113 C Q (1, lv, x :: st, h)) := az_wp_iff.trans az_go_lda
theorem az_s113_1 {a : Nat} : az_p113 C Q (1, lv, .ref a :: st, h) ↔ az_mf (h.1 a) 10 0 (fun v => az_p113 C Q (4, lv, v :: st, h)) := az_wp_iff.trans az_go_gf
theorem az_s113_4 : az_p113 C Q (4, lv, st, h) ↔ az_mi (lv 1) (fun x => az_p113 C Q (5, lv, .int x :: st, h)) := az_wp_iff.trans az_go_ldi
theorem az_s113_5 {a : Nat} {v1 : Value} : az_p113 C Q (5, lv, v1 :: .ref a :: st, h) ↔ az_isob (h.1 a) 2 = true ∧ az_cat st ≤ 8 ∧ az_mc C 14 [.ref a, v1] h (fun v h' => az_p113 C Q (8, lv, v ++ st, h')) := az_wp_iff.trans (az_go_if.trans (and_congr Iff.rfl az_go_call))
theorem az_s113_8 {x : Nat} : az_p113 C Q (8, lv, .ref x :: st, h) ↔ az_p113 C Q (10, (az_s1 lv 4 (.ref x)), st, h) := az_wp_iff
theorem az_s113_8n : az_p113 C Q (8, lv, .null :: st, h) ↔ az_p113 C Q (10, (az_s1 lv 4 .null), st, h) := az_wp_iff
theorem az_s113_10 : az_p113 C Q (10, lv, st, h) ↔ az_ma (lv 0) (fun x => az_p113 C Q (11, lv, x :: st, h)) := az_wp_iff.trans az_go_lda
theorem az_s113_11 {a : Nat} : az_p113 C Q (11, lv, .ref a :: st, h) ↔ az_mf (h.1 a) 10 6 (fun v => az_p113 C Q (14, lv, v :: st, h)) := az_wp_iff.trans az_go_gf
theorem az_s113_14 {x : Int32} : az_p113 C Q (14, lv, .int x :: st, h) ↔ (¬ x = 0 → az_p113 C Q (33, lv, st, h)) ∧ (¬ ¬ x = 0 → az_p113 C Q (17, lv, st, h)) := az_wp_iff.trans (az_go_if1 az_d_eq)
theorem az_s113_17 : az_p113 C Q (17, lv, st, h) ↔ az_ma (lv 4) (fun x => az_p113 C Q (19, lv, x :: st, h)) := az_wp_iff.trans az_go_lda
theorem az_s113_19n : az_p113 C Q (19, lv, .null :: st, h) ↔ az_p113 C Q (33, lv, st, h) := az_wp_iff
theorem az_s113_19 {x : Nat} : az_p113 C Q (19, lv, .ref x :: st, h) ↔ az_p113 C Q (22, lv, st, h) := az_wp_iff
theorem az_s113_22 : az_p113 C Q (22, lv, st, h) ↔ az_ma (lv 0) (fun x => az_p113 C Q (23, lv, x :: st, h)) := az_wp_iff.trans az_go_lda
theorem az_s113_23 {a : Nat} : az_p113 C Q (23, lv, .ref a :: st, h) ↔ az_mf (h.1 a) 10 0 (fun v => az_p113 C Q (26, lv, v :: st, h)) := az_wp_iff.trans az_go_gf
theorem az_s113_26 : az_p113 C Q (26, lv, st, h) ↔ az_mi (lv 2) (fun x => az_p113 C Q (27, lv, .int x :: st, h)) := az_wp_iff.trans az_go_ldi
theorem az_s113_27 {a : Nat} {v1 : Value} : az_p113 C Q (27, lv, v1 :: .ref a :: st, h) ↔ az_isob (h.1 a) 2 = true ∧ az_cat st ≤ 8 ∧ az_mc C 13 [.ref a, v1] h (fun v h' => az_p113 C Q (30, lv, v ++ st, h')) := az_wp_iff.trans (az_go_if.trans (and_congr Iff.rfl az_go_call))
theorem az_s113_30n : az_p113 C Q (30, lv, .null :: st, h) ↔ az_p113 C Q (33, lv, st, h) := az_wp_iff
theorem az_s113_30 {x : Nat} : az_p113 C Q (30, lv, .ref x :: st, h) ↔ az_p113 C Q (35, lv, st, h) := az_wp_iff
theorem az_s113_33 : az_p113 C Q (33, lv, st, h) ↔ az_p113 C Q (34, lv, .int (Int32.ofInt (-1)) :: st, h) := az_wp_iff
theorem az_s113_34 {x : Int32} : az_p113 C Q (34, lv, [.int x], h) ↔ Q (some (.int x)) h := az_wp_iff
theorem az_s113_35 : az_p113 C Q (35, lv, st, h) ↔ az_ma (lv 4) (fun x => az_p113 C Q (37, lv, x :: st, h)) := az_wp_iff.trans az_go_lda
theorem az_s113_37 : az_p113 C Q (37, lv, st, h) ↔ az_mi (lv 2) (fun x => az_p113 C Q (38, lv, .int x :: st, h)) := az_wp_iff.trans az_go_ldi
theorem az_s113_38 : az_p113 C Q (38, lv, st, h) ↔ az_mi (lv 3) (fun x => az_p113 C Q (39, lv, .int x :: st, h)) := az_wp_iff.trans az_go_ldi
theorem az_s113_39 {a : Nat} {v1 v2 : Value} : az_p113 C Q (39, lv, v2 :: v1 :: .ref a :: st, h) ↔ az_isob (h.1 a) 8 = true ∧ az_cat st ≤ 8 ∧ az_mc C 84 [.ref a, v1, v2] h (fun v h' => az_p113 C Q (42, lv, v ++ st, h')) := az_wp_iff.trans (az_go_if.trans (and_congr Iff.rfl az_go_call))
theorem az_s113_42 {x : Int32} : az_p113 C Q (42, lv, [.int x], h) ↔ Q (some (.int x)) h := az_wp_iff
def az_p114 (C : az_Cl) (Q : Option Value → az_H → Prop) : az_S → Prop := az_wp C (fun _ => none) (some .int) (az_fn az_k114) Q
theorem az_s114_0 : az_p114 C Q (0, lv, st, h) ↔ az_ma (lv 0) (fun x => az_p114 C Q (1, lv, x :: st, h)) := az_wp_iff.trans az_go_lda
theorem az_s114_1 {a : Nat} : az_p114 C Q (1, lv, .ref a :: st, h) ↔ az_mf (h.1 a) 10 6 (fun v => az_p114 C Q (4, lv, v :: st, h)) := az_wp_iff.trans az_go_gf
theorem az_s114_4 {x : Int32} : az_p114 C Q (4, lv, .int x :: st, h) ↔ (¬ x = 0 → az_p114 C Q (17, lv, st, h)) ∧ (¬ ¬ x = 0 → az_p114 C Q (7, lv, st, h)) := az_wp_iff.trans (az_go_if1 az_d_eq)
theorem az_s114_7 : az_p114 C Q (7, lv, st, h) ↔ az_ma (lv 0) (fun x => az_p114 C Q (8, lv, x :: st, h)) := az_wp_iff.trans az_go_lda
theorem az_s114_8 {a : Nat} : az_p114 C Q (8, lv, .ref a :: st, h) ↔ az_mf (h.1 a) 10 0 (fun v => az_p114 C Q (11, lv, v :: st, h)) := az_wp_iff.trans az_go_gf
theorem az_s114_11 {a : Nat} : az_p114 C Q (11, lv, .ref a :: st, h) ↔ az_mf (h.1 a) 2 2 (fun v => az_p114 C Q (14, lv, v :: st, h)) := az_wp_iff.trans az_go_gf
theorem az_s114_14 {x : Int32} : az_p114 C Q (14, lv, .int x :: st, h) ↔ (¬ x = 0 → az_p114 C Q (19, lv, st, h)) ∧ (¬ ¬ x = 0 → az_p114 C Q (17, lv, st, h)) := az_wp_iff.trans (az_go_if1 az_d_eq)
theorem az_s114_17 : az_p114 C Q (17, lv, st, h) ↔ az_p114 C Q (18, lv, .int (Int32.ofInt (-1)) :: st, h) := az_wp_iff
theorem az_s114_18 {x : Int32} : az_p114 C Q (18, lv, [.int x], h) ↔ Q (some (.int x)) h := az_wp_iff
theorem az_s114_19 : az_p114 C Q (19, lv, st, h) ↔ az_ma (lv 0) (fun x => az_p114 C Q (20, lv, x :: st, h)) := az_wp_iff.trans az_go_lda
theorem az_s114_20 {a : Nat} : az_p114 C Q (20, lv, .ref a :: st, h) ↔ az_mf (h.1 a) 10 0 (fun v => az_p114 C Q (23, lv, v :: st, h)) := az_wp_iff.trans az_go_gf
theorem az_s114_23 {a : Nat}  : az_p114 C Q (23, lv, .ref a :: st, h) ↔ az_isob (h.1 a) 2 = true ∧ az_cat st ≤ 8 ∧ az_mc C 17 [.ref a] h (fun v h' => az_p114 C Q (26, lv, v ++ st, h')) := az_wp_iff.trans (az_go_if.trans (and_congr Iff.rfl az_go_call))
theorem az_s114_26 {x : Int32} : az_p114 C Q (26, lv, .int x :: st, h) ↔ az_p114 C Q (27, (az_s1 lv 1 (.int x)), st, h) := az_wp_iff
theorem az_s114_27 : az_p114 C Q (27, lv, st, h) ↔ az_ma (lv 0) (fun x => az_p114 C Q (28, lv, x :: st, h)) := az_wp_iff.trans az_go_lda
theorem az_s114_28 : az_p114 C Q (28, lv, st, h) ↔ az_mi (lv 1) (fun x => az_p114 C Q (29, lv, .int x :: st, h)) := az_wp_iff.trans az_go_ldi
theorem az_s114_29 {x : Int32} : az_p114 C Q (29, lv, .int x :: st, h) ↔ (¬ x = 0 → az_p114 C Q (36, lv, st, h)) ∧ (¬ ¬ x = 0 → az_p114 C Q (32, lv, st, h)) := az_wp_iff.trans (az_go_if1 az_d_eq)
theorem az_s114_32 : az_p114 C Q (32, lv, st, h) ↔ az_p114 C Q (33, lv, .int (Int32.ofInt (1)) :: st, h) := az_wp_iff
theorem az_s114_33 : az_p114 C Q (33, lv, st, h) ↔ az_p114 C Q (37, lv, st, h) := az_wp_iff
theorem az_s114_36 : az_p114 C Q (36, lv, st, h) ↔ az_p114 C Q (37, lv, .int (Int32.ofInt (0)) :: st, h) := az_wp_iff
theorem az_s114_37 {a : Nat} {v : Value} : az_p114 C Q (37, lv, v :: .ref a :: st, h) ↔ az_mp (h.1 a) 10 6 2 v (fun c => az_p114 C Q (40, lv, st, az_uh h a c)) := az_wp_iff.trans az_go_pf
theorem az_s114_40 : az_p114 C Q (40, lv, st, h) ↔ az_mi (lv 1) (fun x => az_p114 C Q (41, lv, .int x :: st, h)) := az_wp_iff.trans az_go_ldi
theorem az_s114_41 {x : Int32} : az_p114 C Q (41, lv, [.int x], h) ↔ Q (some (.int x)) h := az_wp_iff
def az_p115 (C : az_Cl) (Q : Option Value → az_H → Prop) : az_S → Prop := az_wp C (fun _ => none) (some .int) (az_fn az_k115) Q
theorem az_s115_0 : az_p115 C Q (0, lv, st, h) ↔ az_ma (lv 0) (fun x => az_p115 C Q (1, lv, x :: st, h)) := az_wp_iff.trans az_go_lda
theorem az_s115_1 {a : Nat} : az_p115 C Q (1, lv, .ref a :: st, h) ↔ az_mf (h.1 a) 10 0 (fun v => az_p115 C Q (4, lv, v :: st, h)) := az_wp_iff.trans az_go_gf
theorem az_s115_4 : az_p115 C Q (4, lv, st, h) ↔ az_mi (lv 1) (fun x => az_p115 C Q (5, lv, .int x :: st, h)) := az_wp_iff.trans az_go_ldi
theorem az_s115_5 {a : Nat} {v1 : Value} : az_p115 C Q (5, lv, v1 :: .ref a :: st, h) ↔ az_isob (h.1 a) 2 = true ∧ az_cat st ≤ 8 ∧ az_mc C 13 [.ref a, v1] h (fun v h' => az_p115 C Q (8, lv, v ++ st, h')) := az_wp_iff.trans (az_go_if.trans (and_congr Iff.rfl az_go_call))
theorem az_s115_8 {x : Nat} : az_p115 C Q (8, lv, .ref x :: st, h) ↔ az_p115 C Q (10, (az_s1 lv 6 (.ref x)), st, h) := az_wp_iff
theorem az_s115_8n : az_p115 C Q (8, lv, .null :: st, h) ↔ az_p115 C Q (10, (az_s1 lv 6 .null), st, h) := az_wp_iff
theorem az_s115_10 : az_p115 C Q (10, lv, st, h) ↔ az_ma (lv 0) (fun x => az_p115 C Q (11, lv, x :: st, h)) := az_wp_iff.trans az_go_lda
theorem az_s115_11 {a : Nat} : az_p115 C Q (11, lv, .ref a :: st, h) ↔ az_mf (h.1 a) 10 6 (fun v => az_p115 C Q (14, lv, v :: st, h)) := az_wp_iff.trans az_go_gf
theorem az_s115_14 {x : Int32} : az_p115 C Q (14, lv, .int x :: st, h) ↔ (x = 0 → az_p115 C Q (41, lv, st, h)) ∧ (¬ x = 0 → az_p115 C Q (17, lv, st, h)) := az_wp_iff.trans (az_go_if1 az_d_eq)
theorem az_s115_17 : az_p115 C Q (17, lv, st, h) ↔ az_ma (lv 0) (fun x => az_p115 C Q (18, lv, x :: st, h)) := az_wp_iff.trans az_go_lda
theorem az_s115_18 {a : Nat} : az_p115 C Q (18, lv, .ref a :: st, h) ↔ az_mf (h.1 a) 10 7 (fun v => az_p115 C Q (21, lv, v :: st, h)) := az_wp_iff.trans az_go_gf
theorem az_s115_21 {x : Int32} : az_p115 C Q (21, lv, .int x :: st, h) ↔ (¬ x = 0 → az_p115 C Q (41, lv, st, h)) ∧ (¬ ¬ x = 0 → az_p115 C Q (24, lv, st, h)) := az_wp_iff.trans (az_go_if1 az_d_eq)
theorem az_s115_24 : az_p115 C Q (24, lv, st, h) ↔ az_ma (lv 6) (fun x => az_p115 C Q (26, lv, x :: st, h)) := az_wp_iff.trans az_go_lda
theorem az_s115_26n : az_p115 C Q (26, lv, .null :: st, h) ↔ az_p115 C Q (41, lv, st, h) := az_wp_iff
theorem az_s115_26 {x : Nat} : az_p115 C Q (26, lv, .ref x :: st, h) ↔ az_p115 C Q (29, lv, st, h) := az_wp_iff
theorem az_s115_29 : az_p115 C Q (29, lv, st, h) ↔ az_mi (lv 2) (fun x => az_p115 C Q (30, lv, .int x :: st, h)) := az_wp_iff.trans az_go_ldi
theorem az_s115_30 : az_p115 C Q (30, lv, st, h) ↔ az_mi (lv 3) (fun x => az_p115 C Q (31, lv, .int x :: st, h)) := az_wp_iff.trans az_go_ldi
theorem az_s115_31 : az_p115 C Q (31, lv, st, h) ↔ az_mi (lv 4) (fun x => az_p115 C Q (33, lv, .int x :: st, h)) := az_wp_iff.trans az_go_ldi
theorem az_s115_33 : az_p115 C Q (33, lv, st, h) ↔ az_mi (lv 5) (fun x => az_p115 C Q (35, lv, .int x :: st, h)) := az_wp_iff.trans az_go_ldi
theorem az_s115_35 {v1 v2 v3 v4 : Value} : az_p115 C Q (35, lv, v4 :: v3 :: v2 :: v1 :: st, h) ↔ az_cat st ≤ 8 ∧ az_mc C 116 [v1, v2, v3, v4] h (fun v h' => az_p115 C Q (38, lv, v ++ st, h')) := az_wp_iff.trans az_go_call
theorem az_s115_38 {x : Int32} : az_p115 C Q (38, lv, .int x :: st, h) ↔ (¬ x = 0 → az_p115 C Q (43, lv, st, h)) ∧ (¬ ¬ x = 0 → az_p115 C Q (41, lv, st, h)) := az_wp_iff.trans (az_go_if1 az_d_eq)
theorem az_s115_41 : az_p115 C Q (41, lv, st, h) ↔ az_p115 C Q (42, lv, .int (Int32.ofInt (-1)) :: st, h) := az_wp_iff
theorem az_s115_42 {x : Int32} : az_p115 C Q (42, lv, [.int x], h) ↔ Q (some (.int x)) h := az_wp_iff
theorem az_s115_43 : az_p115 C Q (43, lv, st, h) ↔ az_ma (lv 6) (fun x => az_p115 C Q (45, lv, x :: st, h)) := az_wp_iff.trans az_go_lda
theorem az_s115_45 : az_p115 C Q (45, lv, st, h) ↔ az_p115 C Q (46, lv, .int (Int32.ofInt (1)) :: st, h) := az_wp_iff
theorem az_s115_46 {a : Nat} {v1 : Value} : az_p115 C Q (46, lv, v1 :: .ref a :: st, h) ↔ az_isob (h.1 a) 0 = true ∧ az_cat st ≤ 8 ∧ az_mc C 1 [.ref a, v1] h (fun v h' => az_p115 C Q (49, lv, v ++ st, h')) := az_wp_iff.trans (az_go_if.trans (and_congr Iff.rfl az_go_call))
theorem az_s115_49 {x : Int32} : az_p115 C Q (49, lv, .int x :: st, h) ↔ (x = 0 → az_p115 C Q (63, lv, st, h)) ∧ (¬ x = 0 → az_p115 C Q (52, lv, st, h)) := az_wp_iff.trans (az_go_if1 az_d_eq)
theorem az_s115_52 : az_p115 C Q (52, lv, st, h) ↔ az_ma (lv 0) (fun x => az_p115 C Q (53, lv, x :: st, h)) := az_wp_iff.trans az_go_lda
theorem az_s115_53 {a : Nat} : az_p115 C Q (53, lv, .ref a :: st, h) ↔ az_mf (h.1 a) 10 1 (fun v => az_p115 C Q (56, lv, v :: st, h)) := az_wp_iff.trans az_go_gf
theorem az_s115_56 : az_p115 C Q (56, lv, st, h) ↔ az_p115 C Q (57, lv, .int (Int32.ofInt (1)) :: st, h) := az_wp_iff
theorem az_s115_57 {a : Nat} {v1 : Value} : az_p115 C Q (57, lv, v1 :: .ref a :: st, h) ↔ az_isob (h.1 a) 5 = true ∧ az_cat st ≤ 8 ∧ az_mc C 39 [.ref a, v1] h (fun v h' => az_p115 C Q (60, lv, v ++ st, h')) := az_wp_iff.trans (az_go_if.trans (and_congr Iff.rfl az_go_call))
theorem az_s115_60 {x : Int32} : az_p115 C Q (60, lv, .int x :: st, h) ↔ (¬ x = 0 → az_p115 C Q (65, lv, st, h)) ∧ (¬ ¬ x = 0 → az_p115 C Q (63, lv, st, h)) := az_wp_iff.trans (az_go_if1 az_d_eq)
theorem az_s115_63 : az_p115 C Q (63, lv, st, h) ↔ az_p115 C Q (64, lv, .int (Int32.ofInt (-1)) :: st, h) := az_wp_iff
theorem az_s115_64 {x : Int32} : az_p115 C Q (64, lv, [.int x], h) ↔ Q (some (.int x)) h := az_wp_iff
theorem az_s115_65 : az_p115 C Q (65, lv, st, h) ↔ az_ma (lv 0) (fun x => az_p115 C Q (66, lv, x :: st, h)) := az_wp_iff.trans az_go_lda
theorem az_s115_66 {a : Nat} : az_p115 C Q (66, lv, .ref a :: st, h) ↔ az_mf (h.1 a) 10 1 (fun v => az_p115 C Q (69, lv, v :: st, h)) := az_wp_iff.trans az_go_gf
theorem az_s115_69 : az_p115 C Q (69, lv, st, h) ↔ az_mi (lv 2) (fun x => az_p115 C Q (70, lv, .int x :: st, h)) := az_wp_iff.trans az_go_ldi
theorem az_s115_70 : az_p115 C Q (70, lv, st, h) ↔ az_mi (lv 3) (fun x => az_p115 C Q (71, lv, .int x :: st, h)) := az_wp_iff.trans az_go_ldi
theorem az_s115_71 : az_p115 C Q (71, lv, st, h) ↔ az_mi (lv 4) (fun x => az_p115 C Q (73, lv, .int x :: st, h)) := az_wp_iff.trans az_go_ldi
theorem az_s115_73 : az_p115 C Q (73, lv, st, h) ↔ az_mi (lv 5) (fun x => az_p115 C Q (75, lv, .int x :: st, h)) := az_wp_iff.trans az_go_ldi
theorem az_s115_75 {a : Nat} {v1 v2 v3 v4 : Value} : az_p115 C Q (75, lv, v4 :: v3 :: v2 :: v1 :: .ref a :: st, h) ↔ az_isob (h.1 a) 5 = true ∧ az_cat st ≤ 8 ∧ az_mc C 46 [.ref a, v1, v2, v3, v4] h (fun v h' => az_p115 C Q (78, lv, v ++ st, h')) := az_wp_iff.trans (az_go_if.trans (and_congr Iff.rfl az_go_call))
theorem az_s115_78 {x : Int32} : az_p115 C Q (78, lv, .int x :: st, h) ↔ az_p115 C Q (80, (az_s1 lv 7 (.int x)), st, h) := az_wp_iff
theorem az_s115_80 : az_p115 C Q (80, lv, st, h) ↔ az_ma (lv 6) (fun x => az_p115 C Q (82, lv, x :: st, h)) := az_wp_iff.trans az_go_lda
theorem az_s115_82 : az_p115 C Q (82, lv, st, h) ↔ az_mi (lv 7) (fun x => az_p115 C Q (84, lv, .int x :: st, h)) := az_wp_iff.trans az_go_ldi
theorem az_s115_84 {a : Nat} {v1 : Value} : az_p115 C Q (84, lv, v1 :: .ref a :: st, h) ↔ az_isob (h.1 a) 0 = true ∧ az_cat st ≤ 8 ∧ az_mc C 3 [.ref a, v1] h (fun v h' => az_p115 C Q (87, lv, v ++ st, h')) := az_wp_iff.trans (az_go_if.trans (and_congr Iff.rfl az_go_call))
theorem az_s115_87 : az_p115 C Q (87, lv, st, h) ↔ az_ma (lv 0) (fun x => az_p115 C Q (88, lv, x :: st, h)) := az_wp_iff.trans az_go_lda
theorem az_s115_88 {a : Nat} : az_p115 C Q (88, lv, .ref a :: st, h) ↔ az_mf (h.1 a) 10 2 (fun v => az_p115 C Q (91, lv, v :: st, h)) := az_wp_iff.trans az_go_gf
theorem az_s115_91 {x : Int32} : az_p115 C Q (91, lv, .int x :: st, h) ↔ az_p115 C Q (92, lv, .int x :: .int x :: st, h) := az_wp_iff
theorem az_s115_91r {x : Nat} : az_p115 C Q (91, lv, .ref x :: st, h) ↔ az_p115 C Q (92, lv, .ref x :: .ref x :: st, h) := az_wp_iff
theorem az_s115_92 {a : Nat} : az_p115 C Q (92, lv, .ref a :: st, h) ↔ az_mf (h.1 a) 3 0 (fun v => az_p115 C Q (95, lv, v :: st, h)) := az_wp_iff.trans az_go_gf
theorem az_s115_95 : az_p115 C Q (95, lv, st, h) ↔ az_mi (lv 2) (fun x => az_p115 C Q (96, lv, .int x :: st, h)) := az_wp_iff.trans az_go_ldi
theorem az_s115_96 {x : Int32} : az_p115 C Q (96, lv, .int x :: st, h) ↔ az_p115 C Q (97, lv, .long x.toInt64 :: st, h) := az_wp_iff
theorem az_s115_97 {x y : Int64} : az_p115 C Q (97, lv, .long y :: .long x :: st, h) ↔ az_p115 C Q (98, lv, .long (x + y) :: st, h) := az_wp_iff
theorem az_s115_98 {a : Nat} {v : Value} : az_p115 C Q (98, lv, v :: .ref a :: st, h) ↔ az_mp (h.1 a) 3 0 1 v (fun c => az_p115 C Q (101, lv, st, az_uh h a c)) := az_wp_iff.trans az_go_pf
theorem az_s115_101 : az_p115 C Q (101, lv, st, h) ↔ az_mi (lv 7) (fun x => az_p115 C Q (103, lv, .int x :: st, h)) := az_wp_iff.trans az_go_ldi
theorem az_s115_103 {x : Int32} : az_p115 C Q (103, lv, [.int x], h) ↔ Q (some (.int x)) h := az_wp_iff
def az_p116 (C : az_Cl) (Q : Option Value → az_H → Prop) : az_S → Prop := az_wp C (fun _ => none) (some .boolean) (az_fn az_k116) Q
theorem az_s116_0 : az_p116 C Q (0, lv, st, h) ↔ az_mi (lv 0) (fun x => az_p116 C Q (1, lv, .int x :: st, h)) := az_wp_iff.trans az_go_ldi
theorem az_s116_1 : az_p116 C Q (1, lv, st, h) ↔ az_p116 C Q (2, lv, .int (Int32.ofInt (1)) :: st, h) := az_wp_iff
theorem az_s116_2 : az_p116 C Q (2, lv, st, h) ↔ az_p116 C Q (4, lv, .int (Int32.ofInt (100000)) :: st, h) := az_wp_iff
theorem az_s116_4 {v1 v2 v3 : Value} : az_p116 C Q (4, lv, v3 :: v2 :: v1 :: st, h) ↔ az_cat st ≤ 8 ∧ az_mc C 132 [v1, v2, v3] h (fun v h' => az_p116 C Q (7, lv, v ++ st, h')) := az_wp_iff.trans az_go_call
theorem az_s116_7 {x : Int32} : az_p116 C Q (7, lv, .int x :: st, h) ↔ (x = 0 → az_p116 C Q (44, lv, st, h)) ∧ (¬ x = 0 → az_p116 C Q (10, lv, st, h)) := az_wp_iff.trans (az_go_if1 az_d_eq)
theorem az_s116_10 : az_p116 C Q (10, lv, st, h) ↔ az_mi (lv 1) (fun x => az_p116 C Q (11, lv, .int x :: st, h)) := az_wp_iff.trans az_go_ldi
theorem az_s116_11 : az_p116 C Q (11, lv, st, h) ↔ az_p116 C Q (12, lv, .int (Int32.ofInt (0)) :: st, h) := az_wp_iff
theorem az_s116_12 : az_p116 C Q (12, lv, st, h) ↔ az_p116 C Q (14, lv, .int (Int32.ofInt (9)) :: st, h) := az_wp_iff
theorem az_s116_14 {v1 v2 v3 : Value} : az_p116 C Q (14, lv, v3 :: v2 :: v1 :: st, h) ↔ az_cat st ≤ 8 ∧ az_mc C 132 [v1, v2, v3] h (fun v h' => az_p116 C Q (17, lv, v ++ st, h')) := az_wp_iff.trans az_go_call
theorem az_s116_17 {x : Int32} : az_p116 C Q (17, lv, .int x :: st, h) ↔ (x = 0 → az_p116 C Q (44, lv, st, h)) ∧ (¬ x = 0 → az_p116 C Q (20, lv, st, h)) := az_wp_iff.trans (az_go_if1 az_d_eq)
theorem az_s116_20 : az_p116 C Q (20, lv, st, h) ↔ az_mi (lv 2) (fun x => az_p116 C Q (21, lv, .int x :: st, h)) := az_wp_iff.trans az_go_ldi
theorem az_s116_21 : az_p116 C Q (21, lv, st, h) ↔ az_p116 C Q (22, lv, .int (Int32.ofInt (0)) :: st, h) := az_wp_iff
theorem az_s116_22 : az_p116 C Q (22, lv, st, h) ↔ az_p116 C Q (25, lv, .int (Int32.ofInt (999)) :: st, h) := az_wp_iff
theorem az_s116_25 {v1 v2 v3 : Value} : az_p116 C Q (25, lv, v3 :: v2 :: v1 :: st, h) ↔ az_cat st ≤ 8 ∧ az_mc C 132 [v1, v2, v3] h (fun v h' => az_p116 C Q (28, lv, v ++ st, h')) := az_wp_iff.trans az_go_call
theorem az_s116_28 {x : Int32} : az_p116 C Q (28, lv, .int x :: st, h) ↔ (x = 0 → az_p116 C Q (44, lv, st, h)) ∧ (¬ x = 0 → az_p116 C Q (31, lv, st, h)) := az_wp_iff.trans (az_go_if1 az_d_eq)
theorem az_s116_31 : az_p116 C Q (31, lv, st, h) ↔ az_mi (lv 3) (fun x => az_p116 C Q (32, lv, .int x :: st, h)) := az_wp_iff.trans az_go_ldi
theorem az_s116_32 : az_p116 C Q (32, lv, st, h) ↔ az_p116 C Q (33, lv, .int (Int32.ofInt (0)) :: st, h) := az_wp_iff
theorem az_s116_33 : az_p116 C Q (33, lv, st, h) ↔ az_p116 C Q (34, lv, .int (Int32.ofInt (3)) :: st, h) := az_wp_iff
theorem az_s116_34 {v1 v2 v3 : Value} : az_p116 C Q (34, lv, v3 :: v2 :: v1 :: st, h) ↔ az_cat st ≤ 8 ∧ az_mc C 132 [v1, v2, v3] h (fun v h' => az_p116 C Q (37, lv, v ++ st, h')) := az_wp_iff.trans az_go_call
theorem az_s116_37 {x : Int32} : az_p116 C Q (37, lv, .int x :: st, h) ↔ (x = 0 → az_p116 C Q (44, lv, st, h)) ∧ (¬ x = 0 → az_p116 C Q (40, lv, st, h)) := az_wp_iff.trans (az_go_if1 az_d_eq)
theorem az_s116_40 : az_p116 C Q (40, lv, st, h) ↔ az_p116 C Q (41, lv, .int (Int32.ofInt (1)) :: st, h) := az_wp_iff
theorem az_s116_41 : az_p116 C Q (41, lv, st, h) ↔ az_p116 C Q (45, lv, st, h) := az_wp_iff
theorem az_s116_44 : az_p116 C Q (44, lv, st, h) ↔ az_p116 C Q (45, lv, .int (Int32.ofInt (0)) :: st, h) := az_wp_iff
theorem az_s116_45 {x : Int32} : az_p116 C Q (45, lv, [.int x], h) ↔ (x = 0 ∨ x = 1) ∧ Q (some (.int x)) h := az_wp_iff.trans az_go_if
def az_p117 (C : az_Cl) (Q : Option Value → az_H → Prop) : az_S → Prop := az_wp C (fun _ => none) (some .boolean) (az_fn az_k117) Q
theorem az_s117_0 : az_p117 C Q (0, lv, st, h) ↔ az_ma (lv 0) (fun x => az_p117 C Q (1, lv, x :: st, h)) := az_wp_iff.trans az_go_lda
theorem az_s117_1 {a : Nat} : az_p117 C Q (1, lv, .ref a :: st, h) ↔ az_mf (h.1 a) 10 0 (fun v => az_p117 C Q (4, lv, v :: st, h)) := az_wp_iff.trans az_go_gf
theorem az_s117_4 : az_p117 C Q (4, lv, st, h) ↔ az_mi (lv 1) (fun x => az_p117 C Q (5, lv, .int x :: st, h)) := az_wp_iff.trans az_go_ldi
theorem az_s117_5 {a : Nat} {v1 : Value} : az_p117 C Q (5, lv, v1 :: .ref a :: st, h) ↔ az_isob (h.1 a) 2 = true ∧ az_cat st ≤ 8 ∧ az_mc C 14 [.ref a, v1] h (fun v h' => az_p117 C Q (8, lv, v ++ st, h')) := az_wp_iff.trans (az_go_if.trans (and_congr Iff.rfl az_go_call))
theorem az_s117_8 {x : Nat} : az_p117 C Q (8, lv, .ref x :: st, h) ↔ az_p117 C Q (10, (az_s1 lv 4 (.ref x)), st, h) := az_wp_iff
theorem az_s117_8n : az_p117 C Q (8, lv, .null :: st, h) ↔ az_p117 C Q (10, (az_s1 lv 4 .null), st, h) := az_wp_iff
theorem az_s117_10 : az_p117 C Q (10, lv, st, h) ↔ az_ma (lv 4) (fun x => az_p117 C Q (12, lv, x :: st, h)) := az_wp_iff.trans az_go_lda
theorem az_s117_12n : az_p117 C Q (12, lv, .null :: st, h) ↔ az_p117 C Q (35, lv, st, h) := az_wp_iff
theorem az_s117_12 {x : Nat} : az_p117 C Q (12, lv, .ref x :: st, h) ↔ az_p117 C Q (15, lv, st, h) := az_wp_iff
theorem az_s117_15 : az_p117 C Q (15, lv, st, h) ↔ az_mi (lv 2) (fun x => az_p117 C Q (16, lv, .int x :: st, h)) := az_wp_iff.trans az_go_ldi
theorem az_s117_16 : az_p117 C Q (16, lv, st, h) ↔ az_p117 C Q (17, lv, .int (Int32.ofInt (1)) :: st, h) := az_wp_iff
theorem az_s117_17 : az_p117 C Q (17, lv, st, h) ↔ az_p117 C Q (20, lv, .int (Int32.ofInt (1000)) :: st, h) := az_wp_iff
theorem az_s117_20 {v1 v2 v3 : Value} : az_p117 C Q (20, lv, v3 :: v2 :: v1 :: st, h) ↔ az_cat st ≤ 8 ∧ az_mc C 132 [v1, v2, v3] h (fun v h' => az_p117 C Q (23, lv, v ++ st, h')) := az_wp_iff.trans az_go_call
theorem az_s117_23 {x : Int32} : az_p117 C Q (23, lv, .int x :: st, h) ↔ (x = 0 → az_p117 C Q (35, lv, st, h)) ∧ (¬ x = 0 → az_p117 C Q (26, lv, st, h)) := az_wp_iff.trans (az_go_if1 az_d_eq)
theorem az_s117_26 : az_p117 C Q (26, lv, st, h) ↔ az_mi (lv 3) (fun x => az_p117 C Q (27, lv, .int x :: st, h)) := az_wp_iff.trans az_go_ldi
theorem az_s117_27 : az_p117 C Q (27, lv, st, h) ↔ az_p117 C Q (28, lv, .int (Int32.ofInt (0)) :: st, h) := az_wp_iff
theorem az_s117_28 : az_p117 C Q (28, lv, st, h) ↔ az_p117 C Q (29, lv, .int (Int32.ofInt (2)) :: st, h) := az_wp_iff
theorem az_s117_29 {v1 v2 v3 : Value} : az_p117 C Q (29, lv, v3 :: v2 :: v1 :: st, h) ↔ az_cat st ≤ 8 ∧ az_mc C 132 [v1, v2, v3] h (fun v h' => az_p117 C Q (32, lv, v ++ st, h')) := az_wp_iff.trans az_go_call
theorem az_s117_32 {x : Int32} : az_p117 C Q (32, lv, .int x :: st, h) ↔ (¬ x = 0 → az_p117 C Q (37, lv, st, h)) ∧ (¬ ¬ x = 0 → az_p117 C Q (35, lv, st, h)) := az_wp_iff.trans (az_go_if1 az_d_eq)
theorem az_s117_35 : az_p117 C Q (35, lv, st, h) ↔ az_p117 C Q (36, lv, .int (Int32.ofInt (0)) :: st, h) := az_wp_iff
theorem az_s117_36 {x : Int32} : az_p117 C Q (36, lv, [.int x], h) ↔ (x = 0 ∨ x = 1) ∧ Q (some (.int x)) h := az_wp_iff.trans az_go_if
theorem az_s117_37 : az_p117 C Q (37, lv, st, h) ↔ az_mi (lv 2) (fun x => az_p117 C Q (38, lv, .int x :: st, h)) := az_wp_iff.trans az_go_ldi
theorem az_s117_38 : az_p117 C Q (38, lv, st, h) ↔ az_ma (lv 4) (fun x => az_p117 C Q (40, lv, x :: st, h)) := az_wp_iff.trans az_go_lda
theorem az_s117_40 {a : Nat} : az_p117 C Q (40, lv, .ref a :: st, h) ↔ az_mf (h.1 a) 8 13 (fun v => az_p117 C Q (43, lv, v :: st, h)) := az_wp_iff.trans az_go_gf
theorem az_s117_43 {x y : Int32} : az_p117 C Q (43, lv, .int y :: .int x :: st, h) ↔ (x ≤ y → az_p117 C Q (63, lv, st, h)) ∧ (¬ x ≤ y → az_p117 C Q (46, lv, st, h)) := az_wp_iff.trans (az_go_if2 az_d_eq)
theorem az_s117_46 : az_p117 C Q (46, lv, st, h) ↔ az_ma (lv 0) (fun x => az_p117 C Q (47, lv, x :: st, h)) := az_wp_iff.trans az_go_lda
theorem az_s117_47 {a : Nat} : az_p117 C Q (47, lv, .ref a :: st, h) ↔ az_mf (h.1 a) 10 3 (fun v => az_p117 C Q (50, lv, v :: st, h)) := az_wp_iff.trans az_go_gf
theorem az_s117_50 : az_p117 C Q (50, lv, st, h) ↔ az_mi (lv 1) (fun x => az_p117 C Q (51, lv, .int x :: st, h)) := az_wp_iff.trans az_go_ldi
theorem az_s117_51 : az_p117 C Q (51, lv, st, h) ↔ az_mi (lv 2) (fun x => az_p117 C Q (52, lv, .int x :: st, h)) := az_wp_iff.trans az_go_ldi
theorem az_s117_52 : az_p117 C Q (52, lv, st, h) ↔ az_mi (lv 3) (fun x => az_p117 C Q (53, lv, .int x :: st, h)) := az_wp_iff.trans az_go_ldi
theorem az_s117_53 {a : Nat} {v1 v2 v3 : Value} : az_p117 C Q (53, lv, v3 :: v2 :: v1 :: .ref a :: st, h) ↔ az_isob (h.1 a) 1 = true ∧ az_cat st ≤ 8 ∧ az_mc C 9 [.ref a, v1, v2, v3] h (fun v h' => az_p117 C Q (56, lv, v ++ st, h')) := az_wp_iff.trans (az_go_if.trans (and_congr Iff.rfl az_go_call))
theorem az_s117_56 {x : Int32} : az_p117 C Q (56, lv, .int x :: st, h) ↔ (x = 0 → az_p117 C Q (63, lv, st, h)) ∧ (¬ x = 0 → az_p117 C Q (59, lv, st, h)) := az_wp_iff.trans (az_go_if1 az_d_eq)
theorem az_s117_59 : az_p117 C Q (59, lv, st, h) ↔ az_p117 C Q (60, lv, .int (Int32.ofInt (1)) :: st, h) := az_wp_iff
theorem az_s117_60 : az_p117 C Q (60, lv, st, h) ↔ az_p117 C Q (64, lv, st, h) := az_wp_iff
theorem az_s117_63 : az_p117 C Q (63, lv, st, h) ↔ az_p117 C Q (64, lv, .int (Int32.ofInt (0)) :: st, h) := az_wp_iff
theorem az_s117_64 {x : Int32} : az_p117 C Q (64, lv, [.int x], h) ↔ (x = 0 ∨ x = 1) ∧ Q (some (.int x)) h := az_wp_iff.trans az_go_if
def az_p118 (C : az_Cl) (Q : Option Value → az_H → Prop) : az_S → Prop := az_wp C (fun _ => none) (some .boolean) (az_fn az_k118) Q
theorem az_s118_0 : az_p118 C Q (0, lv, st, h) ↔ az_ma (lv 0) (fun x => az_p118 C Q (1, lv, x :: st, h)) := az_wp_iff.trans az_go_lda
theorem az_s118_1 {a : Nat} : az_p118 C Q (1, lv, .ref a :: st, h) ↔ az_mf (h.1 a) 10 0 (fun v => az_p118 C Q (4, lv, v :: st, h)) := az_wp_iff.trans az_go_gf
theorem az_s118_4 : az_p118 C Q (4, lv, st, h) ↔ az_mi (lv 1) (fun x => az_p118 C Q (5, lv, .int x :: st, h)) := az_wp_iff.trans az_go_ldi
theorem az_s118_5 {a : Nat} {v1 : Value} : az_p118 C Q (5, lv, v1 :: .ref a :: st, h) ↔ az_isob (h.1 a) 2 = true ∧ az_cat st ≤ 8 ∧ az_mc C 14 [.ref a, v1] h (fun v h' => az_p118 C Q (8, lv, v ++ st, h')) := az_wp_iff.trans (az_go_if.trans (and_congr Iff.rfl az_go_call))
theorem az_s118_8 {x : Nat} : az_p118 C Q (8, lv, .ref x :: st, h) ↔ az_p118 C Q (10, (az_s1 lv 5 (.ref x)), st, h) := az_wp_iff
theorem az_s118_8n : az_p118 C Q (8, lv, .null :: st, h) ↔ az_p118 C Q (10, (az_s1 lv 5 .null), st, h) := az_wp_iff
theorem az_s118_10 : az_p118 C Q (10, lv, st, h) ↔ az_ma (lv 5) (fun x => az_p118 C Q (12, lv, x :: st, h)) := az_wp_iff.trans az_go_lda
theorem az_s118_12n : az_p118 C Q (12, lv, .null :: st, h) ↔ az_p118 C Q (24, lv, st, h) := az_wp_iff
theorem az_s118_12 {x : Nat} : az_p118 C Q (12, lv, .ref x :: st, h) ↔ az_p118 C Q (15, lv, st, h) := az_wp_iff
theorem az_s118_15 : az_p118 C Q (15, lv, st, h) ↔ az_mi (lv 2) (fun x => az_p118 C Q (16, lv, .int x :: st, h)) := az_wp_iff.trans az_go_ldi
theorem az_s118_16 : az_p118 C Q (16, lv, st, h) ↔ az_p118 C Q (17, lv, .int (Int32.ofInt (0)) :: st, h) := az_wp_iff
theorem az_s118_17 : az_p118 C Q (17, lv, st, h) ↔ az_p118 C Q (18, lv, .int (Int32.ofInt (2)) :: st, h) := az_wp_iff
theorem az_s118_18 {v1 v2 v3 : Value} : az_p118 C Q (18, lv, v3 :: v2 :: v1 :: st, h) ↔ az_cat st ≤ 8 ∧ az_mc C 132 [v1, v2, v3] h (fun v h' => az_p118 C Q (21, lv, v ++ st, h')) := az_wp_iff.trans az_go_call
theorem az_s118_21 {x : Int32} : az_p118 C Q (21, lv, .int x :: st, h) ↔ (¬ x = 0 → az_p118 C Q (26, lv, st, h)) ∧ (¬ ¬ x = 0 → az_p118 C Q (24, lv, st, h)) := az_wp_iff.trans (az_go_if1 az_d_eq)
theorem az_s118_24 : az_p118 C Q (24, lv, st, h) ↔ az_p118 C Q (25, lv, .int (Int32.ofInt (0)) :: st, h) := az_wp_iff
theorem az_s118_25 {x : Int32} : az_p118 C Q (25, lv, [.int x], h) ↔ (x = 0 ∨ x = 1) ∧ Q (some (.int x)) h := az_wp_iff.trans az_go_if
theorem az_s118_26 : az_p118 C Q (26, lv, st, h) ↔ az_mi (lv 3) (fun x => az_p118 C Q (27, lv, .int x :: st, h)) := az_wp_iff.trans az_go_ldi
theorem az_s118_27 : az_p118 C Q (27, lv, st, h) ↔ az_p118 C Q (28, lv, .int (Int32.ofInt (0)) :: st, h) := az_wp_iff
theorem az_s118_28 : az_p118 C Q (28, lv, st, h) ↔ az_p118 C Q (29, lv, .int (Int32.ofInt (2)) :: st, h) := az_wp_iff
theorem az_s118_29 {v1 v2 v3 : Value} : az_p118 C Q (29, lv, v3 :: v2 :: v1 :: st, h) ↔ az_cat st ≤ 8 ∧ az_mc C 132 [v1, v2, v3] h (fun v h' => az_p118 C Q (32, lv, v ++ st, h')) := az_wp_iff.trans az_go_call
theorem az_s118_32 {x : Int32} : az_p118 C Q (32, lv, .int x :: st, h) ↔ (x = 0 → az_p118 C Q (46, lv, st, h)) ∧ (¬ x = 0 → az_p118 C Q (35, lv, st, h)) := az_wp_iff.trans (az_go_if1 az_d_eq)
theorem az_s118_35 : az_p118 C Q (35, lv, st, h) ↔ az_mi (lv 4) (fun x => az_p118 C Q (37, lv, .int x :: st, h)) := az_wp_iff.trans az_go_ldi
theorem az_s118_37 : az_p118 C Q (37, lv, st, h) ↔ az_p118 C Q (38, lv, .int (Int32.ofInt (1)) :: st, h) := az_wp_iff
theorem az_s118_38 : az_p118 C Q (38, lv, st, h) ↔ az_p118 C Q (40, lv, .int (Int32.ofInt (30)) :: st, h) := az_wp_iff
theorem az_s118_40 {v1 v2 v3 : Value} : az_p118 C Q (40, lv, v3 :: v2 :: v1 :: st, h) ↔ az_cat st ≤ 8 ∧ az_mc C 132 [v1, v2, v3] h (fun v h' => az_p118 C Q (43, lv, v ++ st, h')) := az_wp_iff.trans az_go_call
theorem az_s118_43 {x : Int32} : az_p118 C Q (43, lv, .int x :: st, h) ↔ (¬ x = 0 → az_p118 C Q (48, lv, st, h)) ∧ (¬ ¬ x = 0 → az_p118 C Q (46, lv, st, h)) := az_wp_iff.trans (az_go_if1 az_d_eq)
theorem az_s118_46 : az_p118 C Q (46, lv, st, h) ↔ az_p118 C Q (47, lv, .int (Int32.ofInt (0)) :: st, h) := az_wp_iff
theorem az_s118_47 {x : Int32} : az_p118 C Q (47, lv, [.int x], h) ↔ (x = 0 ∨ x = 1) ∧ Q (some (.int x)) h := az_wp_iff.trans az_go_if
theorem az_s118_48 : az_p118 C Q (48, lv, st, h) ↔ az_ma (lv 5) (fun x => az_p118 C Q (50, lv, x :: st, h)) := az_wp_iff.trans az_go_lda
theorem az_s118_50 : az_p118 C Q (50, lv, st, h) ↔ az_mi (lv 2) (fun x => az_p118 C Q (51, lv, .int x :: st, h)) := az_wp_iff.trans az_go_ldi
theorem az_s118_51 : az_p118 C Q (51, lv, st, h) ↔ az_mi (lv 3) (fun x => az_p118 C Q (52, lv, .int x :: st, h)) := az_wp_iff.trans az_go_ldi
theorem az_s118_52 : az_p118 C Q (52, lv, st, h) ↔ az_mi (lv 4) (fun x => az_p118 C Q (54, lv, .int x :: st, h)) := az_wp_iff.trans az_go_ldi
theorem az_s118_54 {a : Nat} {v1 v2 v3 : Value} : az_p118 C Q (54, lv, v3 :: v2 :: v1 :: .ref a :: st, h) ↔ az_isob (h.1 a) 8 = true ∧ az_cat st ≤ 8 ∧ az_mc C 92 [.ref a, v1, v2, v3] h (fun v h' => az_p118 C Q (57, lv, v ++ st, h')) := az_wp_iff.trans (az_go_if.trans (and_congr Iff.rfl az_go_call))
theorem az_s118_57 : az_p118 C Q (57, lv, st, h) ↔ az_p118 C Q (58, lv, .int (Int32.ofInt (1)) :: st, h) := az_wp_iff
theorem az_s118_58 {x : Int32} : az_p118 C Q (58, lv, [.int x], h) ↔ (x = 0 ∨ x = 1) ∧ Q (some (.int x)) h := az_wp_iff.trans az_go_if
def az_p119 (C : az_Cl) (Q : Option Value → az_H → Prop) : az_S → Prop := az_wp C (fun _ => none) (some .int) (az_fn az_k119) Q
theorem az_s119_0 : az_p119 C Q (0, lv, st, h) ↔ az_ma (lv 0) (fun x => az_p119 C Q (1, lv, x :: st, h)) := az_wp_iff.trans az_go_lda
theorem az_s119_1 {a : Nat} : az_p119 C Q (1, lv, .ref a :: st, h) ↔ az_mf (h.1 a) 10 6 (fun v => az_p119 C Q (4, lv, v :: st, h)) := az_wp_iff.trans az_go_gf
theorem az_s119_4 {x : Int32} : az_p119 C Q (4, lv, .int x :: st, h) ↔ (x = 0 → az_p119 C Q (33, lv, st, h)) ∧ (¬ x = 0 → az_p119 C Q (7, lv, st, h)) := az_wp_iff.trans (az_go_if1 az_d_eq)
theorem az_s119_7 : az_p119 C Q (7, lv, st, h) ↔ az_mi (lv 1) (fun x => az_p119 C Q (8, lv, .int x :: st, h)) := az_wp_iff.trans az_go_ldi
theorem az_s119_8 : az_p119 C Q (8, lv, st, h) ↔ az_p119 C Q (9, lv, .int (Int32.ofInt (1)) :: st, h) := az_wp_iff
theorem az_s119_9 : az_p119 C Q (9, lv, st, h) ↔ az_p119 C Q (12, lv, .int (Int32.ofInt (200)) :: st, h) := az_wp_iff
theorem az_s119_12 {v1 v2 v3 : Value} : az_p119 C Q (12, lv, v3 :: v2 :: v1 :: st, h) ↔ az_cat st ≤ 8 ∧ az_mc C 132 [v1, v2, v3] h (fun v h' => az_p119 C Q (15, lv, v ++ st, h')) := az_wp_iff.trans az_go_call
theorem az_s119_15 {x : Int32} : az_p119 C Q (15, lv, .int x :: st, h) ↔ (x = 0 → az_p119 C Q (33, lv, st, h)) ∧ (¬ x = 0 → az_p119 C Q (18, lv, st, h)) := az_wp_iff.trans (az_go_if1 az_d_eq)
theorem az_s119_18 : az_p119 C Q (18, lv, st, h) ↔ az_ma (lv 0) (fun x => az_p119 C Q (19, lv, x :: st, h)) := az_wp_iff.trans az_go_lda
theorem az_s119_19 {a : Nat} : az_p119 C Q (19, lv, .ref a :: st, h) ↔ az_mf (h.1 a) 10 4 (fun v => az_p119 C Q (22, lv, v :: st, h)) := az_wp_iff.trans az_go_gf
theorem az_s119_22 {a : Nat} : az_p119 C Q (22, lv, .ref a :: st, h) ↔ az_mf (h.1 a) 7 5 (fun v => az_p119 C Q (25, lv, v :: st, h)) := az_wp_iff.trans az_go_gf
theorem az_s119_25 : az_p119 C Q (25, lv, st, h) ↔ az_mi (lv 1) (fun x => az_p119 C Q (26, lv, .int x :: st, h)) := az_wp_iff.trans az_go_ldi
theorem az_s119_26 {x y : Int32} : az_p119 C Q (26, lv, .int y :: .int x :: st, h) ↔ az_p119 C Q (27, lv, .int (x + y) :: st, h) := az_wp_iff
theorem az_s119_27 : az_p119 C Q (27, lv, st, h) ↔ az_p119 C Q (30, lv, .int (Int32.ofInt (5000)) :: st, h) := az_wp_iff
theorem az_s119_30 {x y : Int32} : az_p119 C Q (30, lv, .int y :: .int x :: st, h) ↔ (x ≤ y → az_p119 C Q (35, lv, st, h)) ∧ (¬ x ≤ y → az_p119 C Q (33, lv, st, h)) := az_wp_iff.trans (az_go_if2 az_d_eq)
theorem az_s119_33 : az_p119 C Q (33, lv, st, h) ↔ az_p119 C Q (34, lv, .int (Int32.ofInt (-1)) :: st, h) := az_wp_iff
theorem az_s119_34 {x : Int32} : az_p119 C Q (34, lv, [.int x], h) ↔ Q (some (.int x)) h := az_wp_iff
theorem az_s119_35 : az_p119 C Q (35, lv, st, h) ↔ az_p119 C Q (36, lv, .int (Int32.ofInt (0)) :: st, h) := az_wp_iff
theorem az_s119_36 {x : Int32} : az_p119 C Q (36, lv, .int x :: st, h) ↔ az_p119 C Q (37, (az_s1 lv 2 (.int x)), st, h) := az_wp_iff
theorem az_s119_37 : az_p119 C Q (37, lv, st, h) ↔ az_mi (lv 2) (fun x => az_p119 C Q (38, lv, .int x :: st, h)) := az_wp_iff.trans az_go_ldi
theorem az_s119_38 : az_p119 C Q (38, lv, st, h) ↔ az_mi (lv 1) (fun x => az_p119 C Q (39, lv, .int x :: st, h)) := az_wp_iff.trans az_go_ldi
theorem az_s119_39 {x y : Int32} : az_p119 C Q (39, lv, .int y :: .int x :: st, h) ↔ (y ≤ x → az_p119 C Q (55, lv, st, h)) ∧ (¬ y ≤ x → az_p119 C Q (42, lv, st, h)) := az_wp_iff.trans (az_go_if2 az_d_eq)
theorem az_s119_42 : az_p119 C Q (42, lv, st, h) ↔ az_ma (lv 0) (fun x => az_p119 C Q (43, lv, x :: st, h)) := az_wp_iff.trans az_go_lda
theorem az_s119_43 {a : Nat} : az_p119 C Q (43, lv, .ref a :: st, h) ↔ az_mf (h.1 a) 10 4 (fun v => az_p119 C Q (46, lv, v :: st, h)) := az_wp_iff.trans az_go_gf
theorem az_s119_46 {a : Nat}  : az_p119 C Q (46, lv, .ref a :: st, h) ↔ az_isob (h.1 a) 7 = true ∧ az_cat st ≤ 8 ∧ az_mc C 62 [.ref a] h (fun v h' => az_p119 C Q (49, lv, v ++ st, h')) := az_wp_iff.trans (az_go_if.trans (and_congr Iff.rfl az_go_call))
theorem az_s119_49 : az_p119 C Q (49, lv, st, h) ↔ az_mi (lv 2) (fun x => az_p119 C Q (52, (az_s1 lv 2 (.int (x + Int32.ofInt (1)))), st, h)) := az_wp_iff.trans az_go_inc
theorem az_s119_52 : az_p119 C Q (52, lv, st, h) ↔ az_p119 C Q (37, lv, st, h) := az_wp_iff
theorem az_s119_55 : az_p119 C Q (55, lv, st, h) ↔ az_ma (lv 0) (fun x => az_p119 C Q (56, lv, x :: st, h)) := az_wp_iff.trans az_go_lda
theorem az_s119_56 {a : Nat} : az_p119 C Q (56, lv, .ref a :: st, h) ↔ az_mf (h.1 a) 10 4 (fun v => az_p119 C Q (59, lv, v :: st, h)) := az_wp_iff.trans az_go_gf
theorem az_s119_59 {a : Nat} : az_p119 C Q (59, lv, .ref a :: st, h) ↔ az_mf (h.1 a) 7 5 (fun v => az_p119 C Q (62, lv, v :: st, h)) := az_wp_iff.trans az_go_gf
theorem az_s119_62 {x : Int32} : az_p119 C Q (62, lv, [.int x], h) ↔ Q (some (.int x)) h := az_wp_iff
def az_p120 (C : az_Cl) (Q : Option Value → az_H → Prop) : az_S → Prop := az_wp C (fun _ => none) (some .boolean) (az_fn az_k120) Q
theorem az_s120_0 : az_p120 C Q (0, lv, st, h) ↔ az_ma (lv 0) (fun x => az_p120 C Q (1, lv, x :: st, h)) := az_wp_iff.trans az_go_lda
theorem az_s120_1 {a : Nat} : az_p120 C Q (1, lv, .ref a :: st, h) ↔ az_mf (h.1 a) 10 6 (fun v => az_p120 C Q (4, lv, v :: st, h)) := az_wp_iff.trans az_go_gf
theorem az_s120_4 {x : Int32} : az_p120 C Q (4, lv, .int x :: st, h) ↔ (x = 0 → az_p120 C Q (16, lv, st, h)) ∧ (¬ x = 0 → az_p120 C Q (7, lv, st, h)) := az_wp_iff.trans (az_go_if1 az_d_eq)
theorem az_s120_7 : az_p120 C Q (7, lv, st, h) ↔ az_mi (lv 1) (fun x => az_p120 C Q (8, lv, .int x :: st, h)) := az_wp_iff.trans az_go_ldi
theorem az_s120_8 : az_p120 C Q (8, lv, st, h) ↔ az_p120 C Q (9, lv, .int (Int32.ofInt (0)) :: st, h) := az_wp_iff
theorem az_s120_9 : az_p120 C Q (9, lv, st, h) ↔ az_p120 C Q (10, lv, .int (Int32.ofInt (2)) :: st, h) := az_wp_iff
theorem az_s120_10 {v1 v2 v3 : Value} : az_p120 C Q (10, lv, v3 :: v2 :: v1 :: st, h) ↔ az_cat st ≤ 8 ∧ az_mc C 132 [v1, v2, v3] h (fun v h' => az_p120 C Q (13, lv, v ++ st, h')) := az_wp_iff.trans az_go_call
theorem az_s120_13 {x : Int32} : az_p120 C Q (13, lv, .int x :: st, h) ↔ (¬ x = 0 → az_p120 C Q (18, lv, st, h)) ∧ (¬ ¬ x = 0 → az_p120 C Q (16, lv, st, h)) := az_wp_iff.trans (az_go_if1 az_d_eq)
theorem az_s120_16 : az_p120 C Q (16, lv, st, h) ↔ az_p120 C Q (17, lv, .int (Int32.ofInt (0)) :: st, h) := az_wp_iff
theorem az_s120_17 {x : Int32} : az_p120 C Q (17, lv, [.int x], h) ↔ (x = 0 ∨ x = 1) ∧ Q (some (.int x)) h := az_wp_iff.trans az_go_if
theorem az_s120_18 : az_p120 C Q (18, lv, st, h) ↔ az_mi (lv 1) (fun x => az_p120 C Q (19, lv, .int x :: st, h)) := az_wp_iff.trans az_go_ldi
theorem az_s120_19 {x : Int32} : az_p120 C Q (19, lv, .int x :: st, h) ↔ (¬ x = 0 → az_p120 C Q (32, lv, st, h)) ∧ (¬ ¬ x = 0 → az_p120 C Q (22, lv, st, h)) := az_wp_iff.trans (az_go_if1 az_d_eq)
theorem az_s120_22 : az_p120 C Q (22, lv, st, h) ↔ az_ma (lv 0) (fun x => az_p120 C Q (23, lv, x :: st, h)) := az_wp_iff.trans az_go_lda
theorem az_s120_23 {a : Nat} : az_p120 C Q (23, lv, .ref a :: st, h) ↔ az_mf (h.1 a) 10 4 (fun v => az_p120 C Q (26, lv, v :: st, h)) := az_wp_iff.trans az_go_gf
theorem az_s120_26 {a : Nat}  : az_p120 C Q (26, lv, .ref a :: st, h) ↔ az_isob (h.1 a) 7 = true ∧ az_cat st ≤ 8 ∧ az_mc C 72 [.ref a] h (fun v h' => az_p120 C Q (29, lv, v ++ st, h')) := az_wp_iff.trans (az_go_if.trans (and_congr Iff.rfl az_go_call))
theorem az_s120_29 : az_p120 C Q (29, lv, st, h) ↔ az_p120 C Q (57, lv, st, h) := az_wp_iff
theorem az_s120_32 : az_p120 C Q (32, lv, st, h) ↔ az_mi (lv 1) (fun x => az_p120 C Q (33, lv, .int x :: st, h)) := az_wp_iff.trans az_go_ldi
theorem az_s120_33 : az_p120 C Q (33, lv, st, h) ↔ az_p120 C Q (34, lv, .int (Int32.ofInt (1)) :: st, h) := az_wp_iff
theorem az_s120_34 {x y : Int32} : az_p120 C Q (34, lv, .int y :: .int x :: st, h) ↔ (¬ x = y → az_p120 C Q (52, lv, st, h)) ∧ (¬ ¬ x = y → az_p120 C Q (37, lv, st, h)) := az_wp_iff.trans (az_go_if2 az_d_eq)
theorem az_s120_37 : az_p120 C Q (37, lv, st, h) ↔ az_ma (lv 0) (fun x => az_p120 C Q (38, lv, x :: st, h)) := az_wp_iff.trans az_go_lda
theorem az_s120_38 {a : Nat} : az_p120 C Q (38, lv, .ref a :: st, h) ↔ az_mf (h.1 a) 10 4 (fun v => az_p120 C Q (41, lv, v :: st, h)) := az_wp_iff.trans az_go_gf
theorem az_s120_41 {a : Nat}  : az_p120 C Q (41, lv, .ref a :: st, h) ↔ az_isob (h.1 a) 7 = true ∧ az_cat st ≤ 8 ∧ az_mc C 75 [.ref a] h (fun v h' => az_p120 C Q (44, lv, v ++ st, h')) := az_wp_iff.trans (az_go_if.trans (and_congr Iff.rfl az_go_call))
theorem az_s120_44 : az_p120 C Q (44, lv, st, h) ↔ az_ma (lv 0) (fun x => az_p120 C Q (45, lv, x :: st, h)) := az_wp_iff.trans az_go_lda
theorem az_s120_45 : az_p120 C Q (45, lv, st, h) ↔ az_p120 C Q (46, lv, .int (Int32.ofInt (0)) :: st, h) := az_wp_iff
theorem az_s120_46 {a : Nat} {v : Value} : az_p120 C Q (46, lv, v :: .ref a :: st, h) ↔ az_mp (h.1 a) 10 7 2 v (fun c => az_p120 C Q (49, lv, st, az_uh h a c)) := az_wp_iff.trans az_go_pf
theorem az_s120_49 : az_p120 C Q (49, lv, st, h) ↔ az_p120 C Q (57, lv, st, h) := az_wp_iff
theorem az_s120_52 : az_p120 C Q (52, lv, st, h) ↔ az_ma (lv 0) (fun x => az_p120 C Q (53, lv, x :: st, h)) := az_wp_iff.trans az_go_lda
theorem az_s120_53 : az_p120 C Q (53, lv, st, h) ↔ az_p120 C Q (54, lv, .int (Int32.ofInt (1)) :: st, h) := az_wp_iff
theorem az_s120_54 {a : Nat} {v : Value} : az_p120 C Q (54, lv, v :: .ref a :: st, h) ↔ az_mp (h.1 a) 10 7 2 v (fun c => az_p120 C Q (57, lv, st, az_uh h a c)) := az_wp_iff.trans az_go_pf
theorem az_s120_57 : az_p120 C Q (57, lv, st, h) ↔ az_p120 C Q (58, lv, .int (Int32.ofInt (1)) :: st, h) := az_wp_iff
theorem az_s120_58 {x : Int32} : az_p120 C Q (58, lv, [.int x], h) ↔ (x = 0 ∨ x = 1) ∧ Q (some (.int x)) h := az_wp_iff.trans az_go_if
def az_p121 (C : az_Cl) (Q : Option Value → az_H → Prop) : az_S → Prop := az_wp C (fun _ => none) (some .boolean) (az_fn az_k121) Q
theorem az_s121_0 : az_p121 C Q (0, lv, st, h) ↔ az_ma (lv 0) (fun x => az_p121 C Q (1, lv, x :: st, h)) := az_wp_iff.trans az_go_lda
theorem az_s121_1 {a : Nat} : az_p121 C Q (1, lv, .ref a :: st, h) ↔ az_mf (h.1 a) 10 0 (fun v => az_p121 C Q (4, lv, v :: st, h)) := az_wp_iff.trans az_go_gf
theorem az_s121_4 : az_p121 C Q (4, lv, st, h) ↔ az_mi (lv 1) (fun x => az_p121 C Q (5, lv, .int x :: st, h)) := az_wp_iff.trans az_go_ldi
theorem az_s121_5 {a : Nat} {v1 : Value} : az_p121 C Q (5, lv, v1 :: .ref a :: st, h) ↔ az_isob (h.1 a) 2 = true ∧ az_cat st ≤ 8 ∧ az_mc C 14 [.ref a, v1] h (fun v h' => az_p121 C Q (8, lv, v ++ st, h')) := az_wp_iff.trans (az_go_if.trans (and_congr Iff.rfl az_go_call))
theorem az_s121_8 {x : Nat} : az_p121 C Q (8, lv, .ref x :: st, h) ↔ az_p121 C Q (10, (az_s1 lv 4 (.ref x)), st, h) := az_wp_iff
theorem az_s121_8n : az_p121 C Q (8, lv, .null :: st, h) ↔ az_p121 C Q (10, (az_s1 lv 4 .null), st, h) := az_wp_iff
theorem az_s121_10 : az_p121 C Q (10, lv, st, h) ↔ az_ma (lv 0) (fun x => az_p121 C Q (11, lv, x :: st, h)) := az_wp_iff.trans az_go_lda
theorem az_s121_11 {a : Nat} : az_p121 C Q (11, lv, .ref a :: st, h) ↔ az_mf (h.1 a) 10 6 (fun v => az_p121 C Q (14, lv, v :: st, h)) := az_wp_iff.trans az_go_gf
theorem az_s121_14 {x : Int32} : az_p121 C Q (14, lv, .int x :: st, h) ↔ (x = 0 → az_p121 C Q (33, lv, st, h)) ∧ (¬ x = 0 → az_p121 C Q (17, lv, st, h)) := az_wp_iff.trans (az_go_if1 az_d_eq)
theorem az_s121_17 : az_p121 C Q (17, lv, st, h) ↔ az_ma (lv 4) (fun x => az_p121 C Q (19, lv, x :: st, h)) := az_wp_iff.trans az_go_lda
theorem az_s121_19n : az_p121 C Q (19, lv, .null :: st, h) ↔ az_p121 C Q (33, lv, st, h) := az_wp_iff
theorem az_s121_19 {x : Nat} : az_p121 C Q (19, lv, .ref x :: st, h) ↔ az_p121 C Q (22, lv, st, h) := az_wp_iff
theorem az_s121_22 : az_p121 C Q (22, lv, st, h) ↔ az_ma (lv 0) (fun x => az_p121 C Q (23, lv, x :: st, h)) := az_wp_iff.trans az_go_lda
theorem az_s121_23 {a : Nat} : az_p121 C Q (23, lv, .ref a :: st, h) ↔ az_mf (h.1 a) 10 0 (fun v => az_p121 C Q (26, lv, v :: st, h)) := az_wp_iff.trans az_go_gf
theorem az_s121_26 : az_p121 C Q (26, lv, st, h) ↔ az_mi (lv 3) (fun x => az_p121 C Q (27, lv, .int x :: st, h)) := az_wp_iff.trans az_go_ldi
theorem az_s121_27 {a : Nat} {v1 : Value} : az_p121 C Q (27, lv, v1 :: .ref a :: st, h) ↔ az_isob (h.1 a) 2 = true ∧ az_cat st ≤ 8 ∧ az_mc C 13 [.ref a, v1] h (fun v h' => az_p121 C Q (30, lv, v ++ st, h')) := az_wp_iff.trans (az_go_if.trans (and_congr Iff.rfl az_go_call))
theorem az_s121_30n : az_p121 C Q (30, lv, .null :: st, h) ↔ az_p121 C Q (33, lv, st, h) := az_wp_iff
theorem az_s121_30 {x : Nat} : az_p121 C Q (30, lv, .ref x :: st, h) ↔ az_p121 C Q (35, lv, st, h) := az_wp_iff
theorem az_s121_33 : az_p121 C Q (33, lv, st, h) ↔ az_p121 C Q (34, lv, .int (Int32.ofInt (0)) :: st, h) := az_wp_iff
theorem az_s121_34 {x : Int32} : az_p121 C Q (34, lv, [.int x], h) ↔ (x = 0 ∨ x = 1) ∧ Q (some (.int x)) h := az_wp_iff.trans az_go_if
theorem az_s121_35 : az_p121 C Q (35, lv, st, h) ↔ az_ma (lv 4) (fun x => az_p121 C Q (37, lv, x :: st, h)) := az_wp_iff.trans az_go_lda
theorem az_s121_37 : az_p121 C Q (37, lv, st, h) ↔ az_mi (lv 2) (fun x => az_p121 C Q (38, lv, .int x :: st, h)) := az_wp_iff.trans az_go_ldi
theorem az_s121_38 : az_p121 C Q (38, lv, st, h) ↔ az_mi (lv 3) (fun x => az_p121 C Q (39, lv, .int x :: st, h)) := az_wp_iff.trans az_go_ldi
theorem az_s121_39 {a : Nat} {v1 v2 : Value} : az_p121 C Q (39, lv, v2 :: v1 :: .ref a :: st, h) ↔ az_isob (h.1 a) 8 = true ∧ az_cat st ≤ 8 ∧ az_mc C 88 [.ref a, v1, v2] h (fun v h' => az_p121 C Q (42, lv, v ++ st, h')) := az_wp_iff.trans (az_go_if.trans (and_congr Iff.rfl az_go_call))
theorem az_s121_42 {x : Int32} : az_p121 C Q (42, lv, [.int x], h) ↔ (x = 0 ∨ x = 1) ∧ Q (some (.int x)) h := az_wp_iff.trans az_go_if
def az_p122 (C : az_Cl) (Q : Option Value → az_H → Prop) : az_S → Prop := az_wp C (fun _ => none) (some .int) (az_fn az_k122) Q
theorem az_s122_0 : az_p122 C Q (0, lv, st, h) ↔ az_ma (lv 0) (fun x => az_p122 C Q (1, lv, x :: st, h)) := az_wp_iff.trans az_go_lda
theorem az_s122_1 {a : Nat} : az_p122 C Q (1, lv, .ref a :: st, h) ↔ az_mf (h.1 a) 10 0 (fun v => az_p122 C Q (4, lv, v :: st, h)) := az_wp_iff.trans az_go_gf
theorem az_s122_4 : az_p122 C Q (4, lv, st, h) ↔ az_mi (lv 1) (fun x => az_p122 C Q (5, lv, .int x :: st, h)) := az_wp_iff.trans az_go_ldi
theorem az_s122_5 {a : Nat} {v1 : Value} : az_p122 C Q (5, lv, v1 :: .ref a :: st, h) ↔ az_isob (h.1 a) 2 = true ∧ az_cat st ≤ 8 ∧ az_mc C 14 [.ref a, v1] h (fun v h' => az_p122 C Q (8, lv, v ++ st, h')) := az_wp_iff.trans (az_go_if.trans (and_congr Iff.rfl az_go_call))
theorem az_s122_8 {x : Nat} : az_p122 C Q (8, lv, .ref x :: st, h) ↔ az_p122 C Q (9, (az_s1 lv 3 (.ref x)), st, h) := az_wp_iff
theorem az_s122_8n : az_p122 C Q (8, lv, .null :: st, h) ↔ az_p122 C Q (9, (az_s1 lv 3 .null), st, h) := az_wp_iff
theorem az_s122_9 : az_p122 C Q (9, lv, st, h) ↔ az_ma (lv 3) (fun x => az_p122 C Q (10, lv, x :: st, h)) := az_wp_iff.trans az_go_lda
theorem az_s122_10n : az_p122 C Q (10, lv, .null :: st, h) ↔ az_p122 C Q (13, lv, st, h) := az_wp_iff
theorem az_s122_10 {x : Nat} : az_p122 C Q (10, lv, .ref x :: st, h) ↔ az_p122 C Q (15, lv, st, h) := az_wp_iff
theorem az_s122_13 : az_p122 C Q (13, lv, st, h) ↔ az_p122 C Q (14, lv, .int (Int32.ofInt (-1)) :: st, h) := az_wp_iff
theorem az_s122_14 {x : Int32} : az_p122 C Q (14, lv, [.int x], h) ↔ Q (some (.int x)) h := az_wp_iff
theorem az_s122_15 : az_p122 C Q (15, lv, st, h) ↔ az_mi (lv 2) (fun x => az_p122 C Q (16, lv, .int x :: st, h)) := az_wp_iff.trans az_go_ldi
theorem az_s122_16 {x : Int32} : az_p122 C Q (16, lv, .int x :: st, h) ↔ (x.toInt = 0 → az_p122 C Q (72, lv, st, h)) ∧ (¬ x.toInt = 0 → (x.toInt = 1 → az_p122 C Q (77, lv, st, h)) ∧ (¬ x.toInt = 1 → (x.toInt = 2 → az_p122 C Q (82, lv, st, h)) ∧ (¬ x.toInt = 2 → (x.toInt = 3 → az_p122 C Q (87, lv, st, h)) ∧ (¬ x.toInt = 3 → (x.toInt = 4 → az_p122 C Q (92, lv, st, h)) ∧ (¬ x.toInt = 4 → (x.toInt = 5 → az_p122 C Q (97, lv, st, h)) ∧ (¬ x.toInt = 5 → (x.toInt = 6 → az_p122 C Q (102, lv, st, h)) ∧ (¬ x.toInt = 6 → (x.toInt = 7 → az_p122 C Q (110, lv, st, h)) ∧ (¬ x.toInt = 7 → (x.toInt = 8 → az_p122 C Q (115, lv, st, h)) ∧ (¬ x.toInt = 8 → (x.toInt = 9 → az_p122 C Q (125, lv, st, h)) ∧ (¬ x.toInt = 9 → az_p122 C Q (131, lv, st, h))))))))))) := az_wp_iff.trans (az_sel_iff (K := fun t => az_p122 C Q (t, lv, st, h)) _ _ _)
theorem az_s122_72 : az_p122 C Q (72, lv, st, h) ↔ az_ma (lv 3) (fun x => az_p122 C Q (73, lv, x :: st, h)) := az_wp_iff.trans az_go_lda
theorem az_s122_73 {a : Nat} : az_p122 C Q (73, lv, .ref a :: st, h) ↔ az_mf (h.1 a) 8 11 (fun v => az_p122 C Q (76, lv, v :: st, h)) := az_wp_iff.trans az_go_gf
theorem az_s122_76 {x : Int32} : az_p122 C Q (76, lv, [.int x], h) ↔ Q (some (.int x)) h := az_wp_iff
theorem az_s122_77 : az_p122 C Q (77, lv, st, h) ↔ az_ma (lv 3) (fun x => az_p122 C Q (78, lv, x :: st, h)) := az_wp_iff.trans az_go_lda
theorem az_s122_78 {a : Nat} : az_p122 C Q (78, lv, .ref a :: st, h) ↔ az_mf (h.1 a) 8 12 (fun v => az_p122 C Q (81, lv, v :: st, h)) := az_wp_iff.trans az_go_gf
theorem az_s122_81 {x : Int32} : az_p122 C Q (81, lv, [.int x], h) ↔ Q (some (.int x)) h := az_wp_iff
theorem az_s122_82 : az_p122 C Q (82, lv, st, h) ↔ az_ma (lv 3) (fun x => az_p122 C Q (83, lv, x :: st, h)) := az_wp_iff.trans az_go_lda
theorem az_s122_83 {a : Nat} : az_p122 C Q (83, lv, .ref a :: st, h) ↔ az_mf (h.1 a) 8 13 (fun v => az_p122 C Q (86, lv, v :: st, h)) := az_wp_iff.trans az_go_gf
theorem az_s122_86 {x : Int32} : az_p122 C Q (86, lv, [.int x], h) ↔ Q (some (.int x)) h := az_wp_iff
theorem az_s122_87 : az_p122 C Q (87, lv, st, h) ↔ az_ma (lv 3) (fun x => az_p122 C Q (88, lv, x :: st, h)) := az_wp_iff.trans az_go_lda
theorem az_s122_88 {a : Nat} : az_p122 C Q (88, lv, .ref a :: st, h) ↔ az_mf (h.1 a) 8 15 (fun v => az_p122 C Q (91, lv, v :: st, h)) := az_wp_iff.trans az_go_gf
theorem az_s122_91 {x : Int32} : az_p122 C Q (91, lv, [.int x], h) ↔ Q (some (.int x)) h := az_wp_iff
theorem az_s122_92 : az_p122 C Q (92, lv, st, h) ↔ az_ma (lv 3) (fun x => az_p122 C Q (93, lv, x :: st, h)) := az_wp_iff.trans az_go_lda
theorem az_s122_93 {a : Nat} : az_p122 C Q (93, lv, .ref a :: st, h) ↔ az_mf (h.1 a) 8 16 (fun v => az_p122 C Q (96, lv, v :: st, h)) := az_wp_iff.trans az_go_gf
theorem az_s122_96 {x : Int32} : az_p122 C Q (96, lv, [.int x], h) ↔ Q (some (.int x)) h := az_wp_iff
theorem az_s122_97 : az_p122 C Q (97, lv, st, h) ↔ az_ma (lv 3) (fun x => az_p122 C Q (98, lv, x :: st, h)) := az_wp_iff.trans az_go_lda
theorem az_s122_98 {a : Nat} : az_p122 C Q (98, lv, .ref a :: st, h) ↔ az_mf (h.1 a) 8 17 (fun v => az_p122 C Q (101, lv, v :: st, h)) := az_wp_iff.trans az_go_gf
theorem az_s122_101 {x : Int32} : az_p122 C Q (101, lv, [.int x], h) ↔ Q (some (.int x)) h := az_wp_iff
theorem az_s122_102 : az_p122 C Q (102, lv, st, h) ↔ az_ma (lv 3) (fun x => az_p122 C Q (103, lv, x :: st, h)) := az_wp_iff.trans az_go_lda
theorem az_s122_103 {a : Nat} : az_p122 C Q (103, lv, .ref a :: st, h) ↔ az_mf (h.1 a) 8 18 (fun v => az_p122 C Q (106, lv, v :: st, h)) := az_wp_iff.trans az_go_gf
theorem az_s122_106 {a : Nat} : az_p122 C Q (106, lv, .ref a :: st, h) ↔ az_mf (h.1 a) 4 0 (fun v => az_p122 C Q (109, lv, v :: st, h)) := az_wp_iff.trans az_go_gf
theorem az_s122_109 {x : Int32} : az_p122 C Q (109, lv, [.int x], h) ↔ Q (some (.int x)) h := az_wp_iff
theorem az_s122_110 : az_p122 C Q (110, lv, st, h) ↔ az_ma (lv 3) (fun x => az_p122 C Q (111, lv, x :: st, h)) := az_wp_iff.trans az_go_lda
theorem az_s122_111 {a : Nat} : az_p122 C Q (111, lv, .ref a :: st, h) ↔ az_mf (h.1 a) 8 14 (fun v => az_p122 C Q (114, lv, v :: st, h)) := az_wp_iff.trans az_go_gf
theorem az_s122_114 {x : Int32} : az_p122 C Q (114, lv, [.int x], h) ↔ Q (some (.int x)) h := az_wp_iff
theorem az_s122_115 : az_p122 C Q (115, lv, st, h) ↔ az_ma (lv 3) (fun x => az_p122 C Q (116, lv, x :: st, h)) := az_wp_iff.trans az_go_lda
theorem az_s122_116 : az_p122 C Q (116, lv, st, h) ↔ az_ma (lv 0) (fun x => az_p122 C Q (117, lv, x :: st, h)) := az_wp_iff.trans az_go_lda
theorem az_s122_117 {a : Nat} : az_p122 C Q (117, lv, .ref a :: st, h) ↔ az_mf (h.1 a) 10 1 (fun v => az_p122 C Q (120, lv, v :: st, h)) := az_wp_iff.trans az_go_gf
theorem az_s122_120 {a : Nat} {v1 : Value} : az_p122 C Q (120, lv, v1 :: .ref a :: st, h) ↔ az_isob (h.1 a) 8 = true ∧ az_cat st ≤ 8 ∧ az_mc C 99 [.ref a, v1] h (fun v h' => az_p122 C Q (123, lv, v ++ st, h')) := az_wp_iff.trans (az_go_if.trans (and_congr Iff.rfl az_go_call))
theorem az_s122_123 {x : Int64} : az_p122 C Q (123, lv, .long x :: st, h) ↔ az_p122 C Q (124, lv, .int x.toInt32 :: st, h) := az_wp_iff
theorem az_s122_124 {x : Int32} : az_p122 C Q (124, lv, [.int x], h) ↔ Q (some (.int x)) h := az_wp_iff
theorem az_s122_125 : az_p122 C Q (125, lv, st, h) ↔ az_ma (lv 3) (fun x => az_p122 C Q (126, lv, x :: st, h)) := az_wp_iff.trans az_go_lda
theorem az_s122_126 : az_p122 C Q (126, lv, st, h) ↔ az_p122 C Q (127, lv, .int (Int32.ofInt (0)) :: st, h) := az_wp_iff
theorem az_s122_127 {a : Nat} {v1 : Value} : az_p122 C Q (127, lv, v1 :: .ref a :: st, h) ↔ az_isob (h.1 a) 8 = true ∧ az_cat st ≤ 8 ∧ az_mc C 86 [.ref a, v1] h (fun v h' => az_p122 C Q (130, lv, v ++ st, h')) := az_wp_iff.trans (az_go_if.trans (and_congr Iff.rfl az_go_call))
theorem az_s122_130 {x : Int32} : az_p122 C Q (130, lv, [.int x], h) ↔ Q (some (.int x)) h := az_wp_iff
theorem az_s122_131 : az_p122 C Q (131, lv, st, h) ↔ az_p122 C Q (132, lv, .int (Int32.ofInt (-1)) :: st, h) := az_wp_iff
theorem az_s122_132 {x : Int32} : az_p122 C Q (132, lv, [.int x], h) ↔ Q (some (.int x)) h := az_wp_iff
def az_p123 (C : az_Cl) (Q : Option Value → az_H → Prop) : az_S → Prop := az_wp C (fun _ => none) (some .int) (az_fn az_k123) Q
theorem az_s123_0 : az_p123 C Q (0, lv, st, h) ↔ az_ma (lv 0) (fun x => az_p123 C Q (1, lv, x :: st, h)) := az_wp_iff.trans az_go_lda
theorem az_s123_1 {a : Nat} : az_p123 C Q (1, lv, .ref a :: st, h) ↔ az_mf (h.1 a) 10 0 (fun v => az_p123 C Q (4, lv, v :: st, h)) := az_wp_iff.trans az_go_gf
theorem az_s123_4 : az_p123 C Q (4, lv, st, h) ↔ az_mi (lv 1) (fun x => az_p123 C Q (5, lv, .int x :: st, h)) := az_wp_iff.trans az_go_ldi
theorem az_s123_5 {a : Nat} {v1 : Value} : az_p123 C Q (5, lv, v1 :: .ref a :: st, h) ↔ az_isob (h.1 a) 2 = true ∧ az_cat st ≤ 8 ∧ az_mc C 13 [.ref a, v1] h (fun v h' => az_p123 C Q (8, lv, v ++ st, h')) := az_wp_iff.trans (az_go_if.trans (and_congr Iff.rfl az_go_call))
theorem az_s123_8 {x : Nat} : az_p123 C Q (8, lv, .ref x :: st, h) ↔ az_p123 C Q (10, (az_s1 lv 4 (.ref x)), st, h) := az_wp_iff
theorem az_s123_8n : az_p123 C Q (8, lv, .null :: st, h) ↔ az_p123 C Q (10, (az_s1 lv 4 .null), st, h) := az_wp_iff
theorem az_s123_10 : az_p123 C Q (10, lv, st, h) ↔ az_ma (lv 4) (fun x => az_p123 C Q (12, lv, x :: st, h)) := az_wp_iff.trans az_go_lda
theorem az_s123_12n : az_p123 C Q (12, lv, .null :: st, h) ↔ az_p123 C Q (15, lv, st, h) := az_wp_iff
theorem az_s123_12 {x : Nat} : az_p123 C Q (12, lv, .ref x :: st, h) ↔ az_p123 C Q (19, lv, st, h) := az_wp_iff
theorem az_s123_15 : az_p123 C Q (15, lv, st, h) ↔ az_p123 C Q (16, lv, .int (Int32.ofInt (-1)) :: st, h) := az_wp_iff
theorem az_s123_16 : az_p123 C Q (16, lv, st, h) ↔ az_p123 C Q (25, lv, st, h) := az_wp_iff
theorem az_s123_19 : az_p123 C Q (19, lv, st, h) ↔ az_ma (lv 4) (fun x => az_p123 C Q (21, lv, x :: st, h)) := az_wp_iff.trans az_go_lda
theorem az_s123_21 : az_p123 C Q (21, lv, st, h) ↔ az_mi (lv 2) (fun x => az_p123 C Q (22, lv, .int x :: st, h)) := az_wp_iff.trans az_go_ldi
theorem az_s123_22 {a : Nat} {v1 : Value} : az_p123 C Q (22, lv, v1 :: .ref a :: st, h) ↔ az_isob (h.1 a) 0 = true ∧ az_cat st ≤ 8 ∧ az_mc C 2 [.ref a, v1] h (fun v h' => az_p123 C Q (25, lv, v ++ st, h')) := az_wp_iff.trans (az_go_if.trans (and_congr Iff.rfl az_go_call))
theorem az_s123_25 {x : Int32} : az_p123 C Q (25, lv, .int x :: st, h) ↔ az_p123 C Q (27, (az_s1 lv 5 (.int x)), st, h) := az_wp_iff
theorem az_s123_27 : az_p123 C Q (27, lv, st, h) ↔ az_mi (lv 5) (fun x => az_p123 C Q (29, lv, .int x :: st, h)) := az_wp_iff.trans az_go_ldi
theorem az_s123_29 : az_p123 C Q (29, lv, st, h) ↔ az_p123 C Q (30, lv, .int (Int32.ofInt (-1)) :: st, h) := az_wp_iff
theorem az_s123_30 {x y : Int32} : az_p123 C Q (30, lv, .int y :: .int x :: st, h) ↔ (¬ x = y → az_p123 C Q (35, lv, st, h)) ∧ (¬ ¬ x = y → az_p123 C Q (33, lv, st, h)) := az_wp_iff.trans (az_go_if2 az_d_eq)
theorem az_s123_33 : az_p123 C Q (33, lv, st, h) ↔ az_p123 C Q (34, lv, .int (Int32.ofInt (-1)) :: st, h) := az_wp_iff
theorem az_s123_34 {x : Int32} : az_p123 C Q (34, lv, [.int x], h) ↔ Q (some (.int x)) h := az_wp_iff
theorem az_s123_35 : az_p123 C Q (35, lv, st, h) ↔ az_mi (lv 3) (fun x => az_p123 C Q (36, lv, .int x :: st, h)) := az_wp_iff.trans az_go_ldi
theorem az_s123_36 {x : Int32} : az_p123 C Q (36, lv, .int x :: st, h) ↔ (x.toInt = 0 → az_p123 C Q (68, lv, st, h)) ∧ (¬ x.toInt = 0 → (x.toInt = 1 → az_p123 C Q (71, lv, st, h)) ∧ (¬ x.toInt = 1 → (x.toInt = 2 → az_p123 C Q (81, lv, st, h)) ∧ (¬ x.toInt = 2 → (x.toInt = 3 → az_p123 C Q (91, lv, st, h)) ∧ (¬ x.toInt = 3 → az_p123 C Q (101, lv, st, h))))) := az_wp_iff.trans (az_sel_iff (K := fun t => az_p123 C Q (t, lv, st, h)) _ _ _)
theorem az_s123_68 : az_p123 C Q (68, lv, st, h) ↔ az_mi (lv 5) (fun x => az_p123 C Q (70, lv, .int x :: st, h)) := az_wp_iff.trans az_go_ldi
theorem az_s123_70 {x : Int32} : az_p123 C Q (70, lv, [.int x], h) ↔ Q (some (.int x)) h := az_wp_iff
theorem az_s123_71 : az_p123 C Q (71, lv, st, h) ↔ az_ma (lv 0) (fun x => az_p123 C Q (72, lv, x :: st, h)) := az_wp_iff.trans az_go_lda
theorem az_s123_72 {a : Nat} : az_p123 C Q (72, lv, .ref a :: st, h) ↔ az_mf (h.1 a) 10 1 (fun v => az_p123 C Q (75, lv, v :: st, h)) := az_wp_iff.trans az_go_gf
theorem az_s123_75 : az_p123 C Q (75, lv, st, h) ↔ az_mi (lv 5) (fun x => az_p123 C Q (77, lv, .int x :: st, h)) := az_wp_iff.trans az_go_ldi
theorem az_s123_77 {a : Nat} {v1 : Value} : az_p123 C Q (77, lv, v1 :: .ref a :: st, h) ↔ az_isob (h.1 a) 5 = true ∧ az_cat st ≤ 8 ∧ az_mc C 40 [.ref a, v1] h (fun v h' => az_p123 C Q (80, lv, v ++ st, h')) := az_wp_iff.trans (az_go_if.trans (and_congr Iff.rfl az_go_call))
theorem az_s123_80 {x : Int32} : az_p123 C Q (80, lv, [.int x], h) ↔ Q (some (.int x)) h := az_wp_iff
theorem az_s123_81 : az_p123 C Q (81, lv, st, h) ↔ az_ma (lv 0) (fun x => az_p123 C Q (82, lv, x :: st, h)) := az_wp_iff.trans az_go_lda
theorem az_s123_82 {a : Nat} : az_p123 C Q (82, lv, .ref a :: st, h) ↔ az_mf (h.1 a) 10 1 (fun v => az_p123 C Q (85, lv, v :: st, h)) := az_wp_iff.trans az_go_gf
theorem az_s123_85 : az_p123 C Q (85, lv, st, h) ↔ az_mi (lv 5) (fun x => az_p123 C Q (87, lv, .int x :: st, h)) := az_wp_iff.trans az_go_ldi
theorem az_s123_87 {a : Nat} {v1 : Value} : az_p123 C Q (87, lv, v1 :: .ref a :: st, h) ↔ az_isob (h.1 a) 5 = true ∧ az_cat st ≤ 8 ∧ az_mc C 41 [.ref a, v1] h (fun v h' => az_p123 C Q (90, lv, v ++ st, h')) := az_wp_iff.trans (az_go_if.trans (and_congr Iff.rfl az_go_call))
theorem az_s123_90 {x : Int32} : az_p123 C Q (90, lv, [.int x], h) ↔ Q (some (.int x)) h := az_wp_iff
theorem az_s123_91 : az_p123 C Q (91, lv, st, h) ↔ az_ma (lv 0) (fun x => az_p123 C Q (92, lv, x :: st, h)) := az_wp_iff.trans az_go_lda
theorem az_s123_92 {a : Nat} : az_p123 C Q (92, lv, .ref a :: st, h) ↔ az_mf (h.1 a) 10 1 (fun v => az_p123 C Q (95, lv, v :: st, h)) := az_wp_iff.trans az_go_gf
theorem az_s123_95 : az_p123 C Q (95, lv, st, h) ↔ az_mi (lv 5) (fun x => az_p123 C Q (97, lv, .int x :: st, h)) := az_wp_iff.trans az_go_ldi
theorem az_s123_97 {a : Nat} {v1 : Value} : az_p123 C Q (97, lv, v1 :: .ref a :: st, h) ↔ az_isob (h.1 a) 5 = true ∧ az_cat st ≤ 8 ∧ az_mc C 42 [.ref a, v1] h (fun v h' => az_p123 C Q (100, lv, v ++ st, h')) := az_wp_iff.trans (az_go_if.trans (and_congr Iff.rfl az_go_call))
theorem az_s123_100 {x : Int32} : az_p123 C Q (100, lv, [.int x], h) ↔ Q (some (.int x)) h := az_wp_iff
theorem az_s123_101 : az_p123 C Q (101, lv, st, h) ↔ az_p123 C Q (102, lv, .int (Int32.ofInt (-1)) :: st, h) := az_wp_iff
theorem az_s123_102 {x : Int32} : az_p123 C Q (102, lv, [.int x], h) ↔ Q (some (.int x)) h := az_wp_iff
def az_p124 (C : az_Cl) (Q : Option Value → az_H → Prop) : az_S → Prop := az_wp C (fun _ => none) (some .int) (az_fn az_k124) Q
theorem az_s124_0 : az_p124 C Q (0, lv, st, h) ↔ az_ma (lv 0) (fun x => az_p124 C Q (1, lv, x :: st, h)) := az_wp_iff.trans az_go_lda
theorem az_s124_1 {a : Nat} : az_p124 C Q (1, lv, .ref a :: st, h) ↔ az_mf (h.1 a) 10 0 (fun v => az_p124 C Q (4, lv, v :: st, h)) := az_wp_iff.trans az_go_gf
theorem az_s124_4 : az_p124 C Q (4, lv, st, h) ↔ az_mi (lv 1) (fun x => az_p124 C Q (5, lv, .int x :: st, h)) := az_wp_iff.trans az_go_ldi
theorem az_s124_5 {a : Nat} {v1 : Value} : az_p124 C Q (5, lv, v1 :: .ref a :: st, h) ↔ az_isob (h.1 a) 2 = true ∧ az_cat st ≤ 8 ∧ az_mc C 13 [.ref a, v1] h (fun v h' => az_p124 C Q (8, lv, v ++ st, h')) := az_wp_iff.trans (az_go_if.trans (and_congr Iff.rfl az_go_call))
theorem az_s124_8 {x : Nat} : az_p124 C Q (8, lv, .ref x :: st, h) ↔ az_p124 C Q (9, (az_s1 lv 3 (.ref x)), st, h) := az_wp_iff
theorem az_s124_8n : az_p124 C Q (8, lv, .null :: st, h) ↔ az_p124 C Q (9, (az_s1 lv 3 .null), st, h) := az_wp_iff
theorem az_s124_9 : az_p124 C Q (9, lv, st, h) ↔ az_ma (lv 3) (fun x => az_p124 C Q (10, lv, x :: st, h)) := az_wp_iff.trans az_go_lda
theorem az_s124_10n : az_p124 C Q (10, lv, .null :: st, h) ↔ az_p124 C Q (13, lv, st, h) := az_wp_iff
theorem az_s124_10 {x : Nat} : az_p124 C Q (10, lv, .ref x :: st, h) ↔ az_p124 C Q (15, lv, st, h) := az_wp_iff
theorem az_s124_13 : az_p124 C Q (13, lv, st, h) ↔ az_p124 C Q (14, lv, .int (Int32.ofInt (-1)) :: st, h) := az_wp_iff
theorem az_s124_14 {x : Int32} : az_p124 C Q (14, lv, [.int x], h) ↔ Q (some (.int x)) h := az_wp_iff
theorem az_s124_15 : az_p124 C Q (15, lv, st, h) ↔ az_mi (lv 2) (fun x => az_p124 C Q (16, lv, .int x :: st, h)) := az_wp_iff.trans az_go_ldi
theorem az_s124_16 {x : Int32} : az_p124 C Q (16, lv, .int x :: st, h) ↔ (x.toInt = 0 → az_p124 C Q (48, lv, st, h)) ∧ (¬ x.toInt = 0 → (x.toInt = 1 → az_p124 C Q (53, lv, st, h)) ∧ (¬ x.toInt = 1 → (x.toInt = 2 → az_p124 C Q (58, lv, st, h)) ∧ (¬ x.toInt = 2 → (x.toInt = 3 → az_p124 C Q (63, lv, st, h)) ∧ (¬ x.toInt = 3 → az_p124 C Q (73, lv, st, h))))) := az_wp_iff.trans (az_sel_iff (K := fun t => az_p124 C Q (t, lv, st, h)) _ _ _)
theorem az_s124_48 : az_p124 C Q (48, lv, st, h) ↔ az_ma (lv 3) (fun x => az_p124 C Q (49, lv, x :: st, h)) := az_wp_iff.trans az_go_lda
theorem az_s124_49 {a : Nat} : az_p124 C Q (49, lv, .ref a :: st, h) ↔ az_mf (h.1 a) 0 2 (fun v => az_p124 C Q (52, lv, v :: st, h)) := az_wp_iff.trans az_go_gf
theorem az_s124_52 {x : Int32} : az_p124 C Q (52, lv, [.int x], h) ↔ Q (some (.int x)) h := az_wp_iff
theorem az_s124_53 : az_p124 C Q (53, lv, st, h) ↔ az_ma (lv 3) (fun x => az_p124 C Q (54, lv, x :: st, h)) := az_wp_iff.trans az_go_lda
theorem az_s124_54 {a : Nat} : az_p124 C Q (54, lv, .ref a :: st, h) ↔ az_mf (h.1 a) 0 3 (fun v => az_p124 C Q (57, lv, v :: st, h)) := az_wp_iff.trans az_go_gf
theorem az_s124_57 {x : Int32} : az_p124 C Q (57, lv, [.int x], h) ↔ Q (some (.int x)) h := az_wp_iff
theorem az_s124_58 : az_p124 C Q (58, lv, st, h) ↔ az_ma (lv 3) (fun x => az_p124 C Q (59, lv, x :: st, h)) := az_wp_iff.trans az_go_lda
theorem az_s124_59 {a : Nat} : az_p124 C Q (59, lv, .ref a :: st, h) ↔ az_mf (h.1 a) 0 0 (fun v => az_p124 C Q (62, lv, v :: st, h)) := az_wp_iff.trans az_go_gf
theorem az_s124_62 {x : Int32} : az_p124 C Q (62, lv, [.int x], h) ↔ Q (some (.int x)) h := az_wp_iff
theorem az_s124_63 : az_p124 C Q (63, lv, st, h) ↔ az_ma (lv 3) (fun x => az_p124 C Q (64, lv, x :: st, h)) := az_wp_iff.trans az_go_lda
theorem az_s124_64 : az_p124 C Q (64, lv, st, h) ↔ az_ma (lv 0) (fun x => az_p124 C Q (65, lv, x :: st, h)) := az_wp_iff.trans az_go_lda
theorem az_s124_65 {a : Nat} : az_p124 C Q (65, lv, .ref a :: st, h) ↔ az_mf (h.1 a) 10 1 (fun v => az_p124 C Q (68, lv, v :: st, h)) := az_wp_iff.trans az_go_gf
theorem az_s124_68 {a : Nat} {v1 : Value} : az_p124 C Q (68, lv, v1 :: .ref a :: st, h) ↔ az_isob (h.1 a) 0 = true ∧ az_cat st ≤ 8 ∧ az_mc C 6 [.ref a, v1] h (fun v h' => az_p124 C Q (71, lv, v ++ st, h')) := az_wp_iff.trans (az_go_if.trans (and_congr Iff.rfl az_go_call))
theorem az_s124_71 {x : Int64} : az_p124 C Q (71, lv, .long x :: st, h) ↔ az_p124 C Q (72, lv, .int x.toInt32 :: st, h) := az_wp_iff
theorem az_s124_72 {x : Int32} : az_p124 C Q (72, lv, [.int x], h) ↔ Q (some (.int x)) h := az_wp_iff
theorem az_s124_73 : az_p124 C Q (73, lv, st, h) ↔ az_p124 C Q (74, lv, .int (Int32.ofInt (-1)) :: st, h) := az_wp_iff
theorem az_s124_74 {x : Int32} : az_p124 C Q (74, lv, [.int x], h) ↔ Q (some (.int x)) h := az_wp_iff
def az_p125 (C : az_Cl) (Q : Option Value → az_H → Prop) : az_S → Prop := az_wp C (fun _ => none) (some .int) (az_fn az_k125) Q
theorem az_s125_0 : az_p125 C Q (0, lv, st, h) ↔ az_ma (lv 0) (fun x => az_p125 C Q (1, lv, x :: st, h)) := az_wp_iff.trans az_go_lda
theorem az_s125_1 {a : Nat} : az_p125 C Q (1, lv, .ref a :: st, h) ↔ az_mf (h.1 a) 10 1 (fun v => az_p125 C Q (4, lv, v :: st, h)) := az_wp_iff.trans az_go_gf
theorem az_s125_4 : az_p125 C Q (4, lv, st, h) ↔ az_mi (lv 1) (fun x => az_p125 C Q (5, lv, .int x :: st, h)) := az_wp_iff.trans az_go_ldi
theorem az_s125_5 {a : Nat} {v1 : Value} : az_p125 C Q (5, lv, v1 :: .ref a :: st, h) ↔ az_isob (h.1 a) 5 = true ∧ az_cat st ≤ 8 ∧ az_mc C 38 [.ref a, v1] h (fun v h' => az_p125 C Q (8, lv, v ++ st, h')) := az_wp_iff.trans (az_go_if.trans (and_congr Iff.rfl az_go_call))
theorem az_s125_8 {x : Int32} : az_p125 C Q (8, lv, .int x :: st, h) ↔ (x = 0 → az_p125 C Q (20, lv, st, h)) ∧ (¬ x = 0 → az_p125 C Q (11, lv, st, h)) := az_wp_iff.trans (az_go_if1 az_d_eq)
theorem az_s125_11 : az_p125 C Q (11, lv, st, h) ↔ az_mi (lv 2) (fun x => az_p125 C Q (12, lv, .int x :: st, h)) := az_wp_iff.trans az_go_ldi
theorem az_s125_12 : az_p125 C Q (12, lv, st, h) ↔ az_p125 C Q (13, lv, .int (Int32.ofInt (0)) :: st, h) := az_wp_iff
theorem az_s125_13 : az_p125 C Q (13, lv, st, h) ↔ az_p125 C Q (14, lv, .int (Int32.ofInt (3)) :: st, h) := az_wp_iff
theorem az_s125_14 {v1 v2 v3 : Value} : az_p125 C Q (14, lv, v3 :: v2 :: v1 :: st, h) ↔ az_cat st ≤ 8 ∧ az_mc C 132 [v1, v2, v3] h (fun v h' => az_p125 C Q (17, lv, v ++ st, h')) := az_wp_iff.trans az_go_call
theorem az_s125_17 {x : Int32} : az_p125 C Q (17, lv, .int x :: st, h) ↔ (¬ x = 0 → az_p125 C Q (22, lv, st, h)) ∧ (¬ ¬ x = 0 → az_p125 C Q (20, lv, st, h)) := az_wp_iff.trans (az_go_if1 az_d_eq)
theorem az_s125_20 : az_p125 C Q (20, lv, st, h) ↔ az_p125 C Q (21, lv, .int (Int32.ofInt (-1)) :: st, h) := az_wp_iff
theorem az_s125_21 {x : Int32} : az_p125 C Q (21, lv, [.int x], h) ↔ Q (some (.int x)) h := az_wp_iff
theorem az_s125_22 : az_p125 C Q (22, lv, st, h) ↔ az_ma (lv 0) (fun x => az_p125 C Q (23, lv, x :: st, h)) := az_wp_iff.trans az_go_lda
theorem az_s125_23 {a : Nat} : az_p125 C Q (23, lv, .ref a :: st, h) ↔ az_mf (h.1 a) 10 1 (fun v => az_p125 C Q (26, lv, v :: st, h)) := az_wp_iff.trans az_go_gf
theorem az_s125_26 : az_p125 C Q (26, lv, st, h) ↔ az_mi (lv 1) (fun x => az_p125 C Q (27, lv, .int x :: st, h)) := az_wp_iff.trans az_go_ldi
theorem az_s125_27 : az_p125 C Q (27, lv, st, h) ↔ az_mi (lv 2) (fun x => az_p125 C Q (28, lv, .int x :: st, h)) := az_wp_iff.trans az_go_ldi
theorem az_s125_28 {a : Nat} {v1 v2 : Value} : az_p125 C Q (28, lv, v2 :: v1 :: .ref a :: st, h) ↔ az_isob (h.1 a) 5 = true ∧ az_cat st ≤ 8 ∧ az_mc C 43 [.ref a, v1, v2] h (fun v h' => az_p125 C Q (31, lv, v ++ st, h')) := az_wp_iff.trans (az_go_if.trans (and_congr Iff.rfl az_go_call))
theorem az_s125_31 {x : Int32} : az_p125 C Q (31, lv, [.int x], h) ↔ Q (some (.int x)) h := az_wp_iff
def az_p126 (C : az_Cl) (Q : Option Value → az_H → Prop) : az_S → Prop := az_wp C (fun _ => none) (some .int) (az_fn az_k126) Q
theorem az_s126_0 : az_p126 C Q (0, lv, st, h) ↔ az_ma (lv 0) (fun x => az_p126 C Q (1, lv, x :: st, h)) := az_wp_iff.trans az_go_lda
theorem az_s126_1 {a : Nat} : az_p126 C Q (1, lv, .ref a :: st, h) ↔ az_mf (h.1 a) 10 2 (fun v => az_p126 C Q (4, lv, v :: st, h)) := az_wp_iff.trans az_go_gf
theorem az_s126_4 : az_p126 C Q (4, lv, st, h) ↔ az_mi (lv 1) (fun x => az_p126 C Q (5, lv, .int x :: st, h)) := az_wp_iff.trans az_go_ldi
theorem az_s126_5 {a : Nat} {v1 : Value} : az_p126 C Q (5, lv, v1 :: .ref a :: st, h) ↔ az_isob (h.1 a) 3 = true ∧ az_cat st ≤ 8 ∧ az_mc C 24 [.ref a, v1] h (fun v h' => az_p126 C Q (8, lv, v ++ st, h')) := az_wp_iff.trans (az_go_if.trans (and_congr Iff.rfl az_go_call))
theorem az_s126_8 {x : Int32} : az_p126 C Q (8, lv, [.int x], h) ↔ Q (some (.int x)) h := az_wp_iff
def az_p127 (C : az_Cl) (Q : Option Value → az_H → Prop) : az_S → Prop := az_wp C (fun _ => none) (some .int) (az_fn az_k127) Q
theorem az_s127_0 : az_p127 C Q (0, lv, st, h) ↔ az_ma (lv 0) (fun x => az_p127 C Q (1, lv, x :: st, h)) := az_wp_iff.trans az_go_lda
theorem az_s127_1 {a : Nat} : az_p127 C Q (1, lv, .ref a :: st, h) ↔ az_mf (h.1 a) 10 2 (fun v => az_p127 C Q (4, lv, v :: st, h)) := az_wp_iff.trans az_go_gf
theorem az_s127_4 : az_p127 C Q (4, lv, st, h) ↔ az_mi (lv 1) (fun x => az_p127 C Q (5, lv, .int x :: st, h)) := az_wp_iff.trans az_go_ldi
theorem az_s127_5 : az_p127 C Q (5, lv, st, h) ↔ az_mi (lv 2) (fun x => az_p127 C Q (6, lv, .int x :: st, h)) := az_wp_iff.trans az_go_ldi
theorem az_s127_6 {a : Nat} {v1 v2 : Value} : az_p127 C Q (6, lv, v2 :: v1 :: .ref a :: st, h) ↔ az_isob (h.1 a) 3 = true ∧ az_cat st ≤ 8 ∧ az_mc C 26 [.ref a, v1, v2] h (fun v h' => az_p127 C Q (9, lv, v ++ st, h')) := az_wp_iff.trans (az_go_if.trans (and_congr Iff.rfl az_go_call))
theorem az_s127_9 {x : Int32} : az_p127 C Q (9, lv, [.int x], h) ↔ Q (some (.int x)) h := az_wp_iff
def az_p128 (C : az_Cl) (Q : Option Value → az_H → Prop) : az_S → Prop := az_wp C (fun _ => none) (some .long) (az_fn az_k128) Q
theorem az_s128_0 : az_p128 C Q (0, lv, st, h) ↔ az_mi (lv 1) (fun x => az_p128 C Q (1, lv, .int x :: st, h)) := az_wp_iff.trans az_go_ldi
theorem az_s128_1 {x : Int32} : az_p128 C Q (1, lv, .int x :: st, h) ↔ (x.toInt = 0 → az_p128 C Q (44, lv, st, h)) ∧ (¬ x.toInt = 0 → (x.toInt = 1 → az_p128 C Q (52, lv, st, h)) ∧ (¬ x.toInt = 1 → (x.toInt = 2 → az_p128 C Q (60, lv, st, h)) ∧ (¬ x.toInt = 2 → (x.toInt = 3 → az_p128 C Q (68, lv, st, h)) ∧ (¬ x.toInt = 3 → (x.toInt = 4 → az_p128 C Q (76, lv, st, h)) ∧ (¬ x.toInt = 4 → (x.toInt = 5 → az_p128 C Q (84, lv, st, h)) ∧ (¬ x.toInt = 5 → (x.toInt = 6 → az_p128 C Q (96, lv, st, h)) ∧ (¬ x.toInt = 6 → az_p128 C Q (108, lv, st, h)))))))) := az_wp_iff.trans (az_sel_iff (K := fun t => az_p128 C Q (t, lv, st, h)) _ _ _)
theorem az_s128_44 : az_p128 C Q (44, lv, st, h) ↔ az_ma (lv 0) (fun x => az_p128 C Q (45, lv, x :: st, h)) := az_wp_iff.trans az_go_lda
theorem az_s128_45 {a : Nat} : az_p128 C Q (45, lv, .ref a :: st, h) ↔ az_mf (h.1 a) 10 2 (fun v => az_p128 C Q (48, lv, v :: st, h)) := az_wp_iff.trans az_go_gf
theorem az_s128_48 {a : Nat} : az_p128 C Q (48, lv, .ref a :: st, h) ↔ az_mf (h.1 a) 3 0 (fun v => az_p128 C Q (51, lv, v :: st, h)) := az_wp_iff.trans az_go_gf
theorem az_s128_51 {x : Int64} : az_p128 C Q (51, lv, [.long x], h) ↔ Q (some (.long x)) h := az_wp_iff
theorem az_s128_52 : az_p128 C Q (52, lv, st, h) ↔ az_ma (lv 0) (fun x => az_p128 C Q (53, lv, x :: st, h)) := az_wp_iff.trans az_go_lda
theorem az_s128_53 {a : Nat} : az_p128 C Q (53, lv, .ref a :: st, h) ↔ az_mf (h.1 a) 10 2 (fun v => az_p128 C Q (56, lv, v :: st, h)) := az_wp_iff.trans az_go_gf
theorem az_s128_56 {a : Nat} : az_p128 C Q (56, lv, .ref a :: st, h) ↔ az_mf (h.1 a) 3 1 (fun v => az_p128 C Q (59, lv, v :: st, h)) := az_wp_iff.trans az_go_gf
theorem az_s128_59 {x : Int64} : az_p128 C Q (59, lv, [.long x], h) ↔ Q (some (.long x)) h := az_wp_iff
theorem az_s128_60 : az_p128 C Q (60, lv, st, h) ↔ az_ma (lv 0) (fun x => az_p128 C Q (61, lv, x :: st, h)) := az_wp_iff.trans az_go_lda
theorem az_s128_61 {a : Nat} : az_p128 C Q (61, lv, .ref a :: st, h) ↔ az_mf (h.1 a) 10 2 (fun v => az_p128 C Q (64, lv, v :: st, h)) := az_wp_iff.trans az_go_gf
theorem az_s128_64 {a : Nat} : az_p128 C Q (64, lv, .ref a :: st, h) ↔ az_mf (h.1 a) 3 2 (fun v => az_p128 C Q (67, lv, v :: st, h)) := az_wp_iff.trans az_go_gf
theorem az_s128_67 {x : Int64} : az_p128 C Q (67, lv, [.long x], h) ↔ Q (some (.long x)) h := az_wp_iff
theorem az_s128_68 : az_p128 C Q (68, lv, st, h) ↔ az_ma (lv 0) (fun x => az_p128 C Q (69, lv, x :: st, h)) := az_wp_iff.trans az_go_lda
theorem az_s128_69 {a : Nat} : az_p128 C Q (69, lv, .ref a :: st, h) ↔ az_mf (h.1 a) 10 2 (fun v => az_p128 C Q (72, lv, v :: st, h)) := az_wp_iff.trans az_go_gf
theorem az_s128_72 {a : Nat} : az_p128 C Q (72, lv, .ref a :: st, h) ↔ az_mf (h.1 a) 3 3 (fun v => az_p128 C Q (75, lv, v :: st, h)) := az_wp_iff.trans az_go_gf
theorem az_s128_75 {x : Int64} : az_p128 C Q (75, lv, [.long x], h) ↔ Q (some (.long x)) h := az_wp_iff
theorem az_s128_76 : az_p128 C Q (76, lv, st, h) ↔ az_ma (lv 0) (fun x => az_p128 C Q (77, lv, x :: st, h)) := az_wp_iff.trans az_go_lda
theorem az_s128_77 {a : Nat} : az_p128 C Q (77, lv, .ref a :: st, h) ↔ az_mf (h.1 a) 10 2 (fun v => az_p128 C Q (80, lv, v :: st, h)) := az_wp_iff.trans az_go_gf
theorem az_s128_80 {a : Nat} : az_p128 C Q (80, lv, .ref a :: st, h) ↔ az_mf (h.1 a) 3 4 (fun v => az_p128 C Q (83, lv, v :: st, h)) := az_wp_iff.trans az_go_gf
theorem az_s128_83 {x : Int64} : az_p128 C Q (83, lv, [.long x], h) ↔ Q (some (.long x)) h := az_wp_iff
theorem az_s128_84 : az_p128 C Q (84, lv, st, h) ↔ az_ma (lv 0) (fun x => az_p128 C Q (85, lv, x :: st, h)) := az_wp_iff.trans az_go_lda
theorem az_s128_85 {a : Nat} : az_p128 C Q (85, lv, .ref a :: st, h) ↔ az_mf (h.1 a) 10 0 (fun v => az_p128 C Q (88, lv, v :: st, h)) := az_wp_iff.trans az_go_gf
theorem az_s128_88 : az_p128 C Q (88, lv, st, h) ↔ az_ma (lv 0) (fun x => az_p128 C Q (89, lv, x :: st, h)) := az_wp_iff.trans az_go_lda
theorem az_s128_89 {a : Nat} : az_p128 C Q (89, lv, .ref a :: st, h) ↔ az_mf (h.1 a) 10 1 (fun v => az_p128 C Q (92, lv, v :: st, h)) := az_wp_iff.trans az_go_gf
theorem az_s128_92 {a : Nat} {v1 : Value} : az_p128 C Q (92, lv, v1 :: .ref a :: st, h) ↔ az_isob (h.1 a) 2 = true ∧ az_cat st ≤ 8 ∧ az_mc C 21 [.ref a, v1] h (fun v h' => az_p128 C Q (95, lv, v ++ st, h')) := az_wp_iff.trans (az_go_if.trans (and_congr Iff.rfl az_go_call))
theorem az_s128_95 {x : Int64} : az_p128 C Q (95, lv, [.long x], h) ↔ Q (some (.long x)) h := az_wp_iff
theorem az_s128_96 : az_p128 C Q (96, lv, st, h) ↔ az_ma (lv 0) (fun x => az_p128 C Q (97, lv, x :: st, h)) := az_wp_iff.trans az_go_lda
theorem az_s128_97 {a : Nat} : az_p128 C Q (97, lv, .ref a :: st, h) ↔ az_mf (h.1 a) 10 0 (fun v => az_p128 C Q (100, lv, v :: st, h)) := az_wp_iff.trans az_go_gf
theorem az_s128_100 : az_p128 C Q (100, lv, st, h) ↔ az_ma (lv 0) (fun x => az_p128 C Q (101, lv, x :: st, h)) := az_wp_iff.trans az_go_lda
theorem az_s128_101 {a : Nat} : az_p128 C Q (101, lv, .ref a :: st, h) ↔ az_mf (h.1 a) 10 1 (fun v => az_p128 C Q (104, lv, v :: st, h)) := az_wp_iff.trans az_go_gf
theorem az_s128_104 {a : Nat} {v1 : Value} : az_p128 C Q (104, lv, v1 :: .ref a :: st, h) ↔ az_isob (h.1 a) 2 = true ∧ az_cat st ≤ 8 ∧ az_mc C 22 [.ref a, v1] h (fun v h' => az_p128 C Q (107, lv, v ++ st, h')) := az_wp_iff.trans (az_go_if.trans (and_congr Iff.rfl az_go_call))
theorem az_s128_107 {x : Int64} : az_p128 C Q (107, lv, [.long x], h) ↔ Q (some (.long x)) h := az_wp_iff
theorem az_s128_108 : az_p128 C Q (108, lv, st, h) ↔ az_p128 C Q (111, lv, .long (Int64.ofInt (-1)) :: st, h) := az_wp_iff
theorem az_s128_111 {x : Int64} : az_p128 C Q (111, lv, [.long x], h) ↔ Q (some (.long x)) h := az_wp_iff
def az_p129 (C : az_Cl) (Q : Option Value → az_H → Prop) : az_S → Prop := az_wp C (fun _ => none) (some .int) (az_fn az_k129) Q
theorem az_s129_0 : az_p129 C Q (0, lv, st, h) ↔ az_ma (lv 0) (fun x => az_p129 C Q (1, lv, x :: st, h)) := az_wp_iff.trans az_go_lda
theorem az_s129_1 {a : Nat} : az_p129 C Q (1, lv, .ref a :: st, h) ↔ az_mf (h.1 a) 10 6 (fun v => az_p129 C Q (4, lv, v :: st, h)) := az_wp_iff.trans az_go_gf
theorem az_s129_4 {x : Int32} : az_p129 C Q (4, lv, .int x :: st, h) ↔ (¬ x = 0 → az_p129 C Q (9, lv, st, h)) ∧ (¬ ¬ x = 0 → az_p129 C Q (7, lv, st, h)) := az_wp_iff.trans (az_go_if1 az_d_eq)
theorem az_s129_7 : az_p129 C Q (7, lv, st, h) ↔ az_p129 C Q (8, lv, .int (Int32.ofInt (-1)) :: st, h) := az_wp_iff
theorem az_s129_8 {x : Int32} : az_p129 C Q (8, lv, [.int x], h) ↔ Q (some (.int x)) h := az_wp_iff
theorem az_s129_9 : az_p129 C Q (9, lv, st, h) ↔ az_ma (lv 0) (fun x => az_p129 C Q (10, lv, x :: st, h)) := az_wp_iff.trans az_go_lda
theorem az_s129_10 {a : Nat} : az_p129 C Q (10, lv, .ref a :: st, h) ↔ az_mf (h.1 a) 10 4 (fun v => az_p129 C Q (13, lv, v :: st, h)) := az_wp_iff.trans az_go_gf
theorem az_s129_13 {a : Nat}  : az_p129 C Q (13, lv, .ref a :: st, h) ↔ az_isob (h.1 a) 7 = true ∧ az_cat st ≤ 8 ∧ az_mc C 76 [.ref a] h (fun v h' => az_p129 C Q (16, lv, v ++ st, h')) := az_wp_iff.trans (az_go_if.trans (and_congr Iff.rfl az_go_call))
theorem az_s129_16 {x : Int32} : az_p129 C Q (16, lv, .int x :: st, h) ↔ (x = 0 → az_p129 C Q (23, lv, st, h)) ∧ (¬ x = 0 → az_p129 C Q (19, lv, st, h)) := az_wp_iff.trans (az_go_if1 az_d_eq)
theorem az_s129_19 : az_p129 C Q (19, lv, st, h) ↔ az_p129 C Q (20, lv, .int (Int32.ofInt (1)) :: st, h) := az_wp_iff
theorem az_s129_20 : az_p129 C Q (20, lv, st, h) ↔ az_p129 C Q (24, lv, st, h) := az_wp_iff
theorem az_s129_23 : az_p129 C Q (23, lv, st, h) ↔ az_p129 C Q (24, lv, .int (Int32.ofInt (0)) :: st, h) := az_wp_iff
theorem az_s129_24 {x : Int32} : az_p129 C Q (24, lv, [.int x], h) ↔ Q (some (.int x)) h := az_wp_iff
def az_p130 (C : az_Cl) (Q : Option Value → az_H → Prop) : az_S → Prop := az_wp C (fun _ => none) (some .int) (az_fn az_k130) Q
theorem az_s130_0 : az_p130 C Q (0, lv, st, h) ↔ az_ma (lv 0) (fun x => az_p130 C Q (1, lv, x :: st, h)) := az_wp_iff.trans az_go_lda
theorem az_s130_1 {a : Nat} : az_p130 C Q (1, lv, .ref a :: st, h) ↔ az_mf (h.1 a) 10 5 (fun v => az_p130 C Q (4, lv, v :: st, h)) := az_wp_iff.trans az_go_gf
theorem az_s130_4 : az_p130 C Q (4, lv, st, h) ↔ az_ma (lv 0) (fun x => az_p130 C Q (5, lv, x :: st, h)) := az_wp_iff.trans az_go_lda
theorem az_s130_5 {a : Nat} : az_p130 C Q (5, lv, .ref a :: st, h) ↔ az_mf (h.1 a) 10 0 (fun v => az_p130 C Q (8, lv, v :: st, h)) := az_wp_iff.trans az_go_gf
theorem az_s130_8 {a : Nat} {v1 : Value} : az_p130 C Q (8, lv, v1 :: .ref a :: st, h) ↔ az_isob (h.1 a) 6 = true ∧ az_cat st ≤ 8 ∧ az_mc C 55 [.ref a, v1] h (fun v h' => az_p130 C Q (11, lv, v ++ st, h')) := az_wp_iff.trans (az_go_if.trans (and_congr Iff.rfl az_go_call))
theorem az_s130_11 : az_p130 C Q (11, lv, st, h) ↔ az_ma (lv 0) (fun x => az_p130 C Q (12, lv, x :: st, h)) := az_wp_iff.trans az_go_lda
theorem az_s130_12 {a : Nat} : az_p130 C Q (12, lv, .ref a :: st, h) ↔ az_mf (h.1 a) 10 5 (fun v => az_p130 C Q (15, lv, v :: st, h)) := az_wp_iff.trans az_go_gf
theorem az_s130_15 : az_p130 C Q (15, lv, st, h) ↔ az_mi (lv 1) (fun x => az_p130 C Q (16, lv, .int x :: st, h)) := az_wp_iff.trans az_go_ldi
theorem az_s130_16 {a : Nat} {v1 : Value} : az_p130 C Q (16, lv, v1 :: .ref a :: st, h) ↔ az_isob (h.1 a) 6 = true ∧ az_cat st ≤ 8 ∧ az_mc C 54 [.ref a, v1] h (fun v h' => az_p130 C Q (19, lv, v ++ st, h')) := az_wp_iff.trans (az_go_if.trans (and_congr Iff.rfl az_go_call))
theorem az_s130_19 {x : Int32} : az_p130 C Q (19, lv, [.int x], h) ↔ Q (some (.int x)) h := az_wp_iff
def az_p131 (C : az_Cl) (Q : Option Value → az_H → Prop) : az_S → Prop := az_wp C (fun _ => none) (some .int) (az_fn az_k131) Q
theorem az_s131_0 : az_p131 C Q (0, lv, st, h) ↔ az_mi (lv 1) (fun x => az_p131 C Q (1, lv, .int x :: st, h)) := az_wp_iff.trans az_go_ldi
theorem az_s131_1 {x : Int32} : az_p131 C Q (1, lv, .int x :: st, h) ↔ (x.toInt = 0 → az_p131 C Q (44, lv, st, h)) ∧ (¬ x.toInt = 0 → (x.toInt = 1 → az_p131 C Q (52, lv, st, h)) ∧ (¬ x.toInt = 1 → (x.toInt = 2 → az_p131 C Q (60, lv, st, h)) ∧ (¬ x.toInt = 2 → (x.toInt = 3 → az_p131 C Q (73, lv, st, h)) ∧ (¬ x.toInt = 3 → (x.toInt = 4 → az_p131 C Q (86, lv, st, h)) ∧ (¬ x.toInt = 4 → (x.toInt = 5 → az_p131 C Q (94, lv, st, h)) ∧ (¬ x.toInt = 5 → (x.toInt = 6 → az_p131 C Q (102, lv, st, h)) ∧ (¬ x.toInt = 6 → az_p131 C Q (118, lv, st, h)))))))) := az_wp_iff.trans (az_sel_iff (K := fun t => az_p131 C Q (t, lv, st, h)) _ _ _)
theorem az_s131_44 : az_p131 C Q (44, lv, st, h) ↔ az_ma (lv 0) (fun x => az_p131 C Q (45, lv, x :: st, h)) := az_wp_iff.trans az_go_lda
theorem az_s131_45 {a : Nat} : az_p131 C Q (45, lv, .ref a :: st, h) ↔ az_mf (h.1 a) 10 4 (fun v => az_p131 C Q (48, lv, v :: st, h)) := az_wp_iff.trans az_go_gf
theorem az_s131_48 {a : Nat} : az_p131 C Q (48, lv, .ref a :: st, h) ↔ az_mf (h.1 a) 7 5 (fun v => az_p131 C Q (51, lv, v :: st, h)) := az_wp_iff.trans az_go_gf
theorem az_s131_51 {x : Int32} : az_p131 C Q (51, lv, [.int x], h) ↔ Q (some (.int x)) h := az_wp_iff
theorem az_s131_52 : az_p131 C Q (52, lv, st, h) ↔ az_ma (lv 0) (fun x => az_p131 C Q (53, lv, x :: st, h)) := az_wp_iff.trans az_go_lda
theorem az_s131_53 {a : Nat} : az_p131 C Q (53, lv, .ref a :: st, h) ↔ az_mf (h.1 a) 10 1 (fun v => az_p131 C Q (56, lv, v :: st, h)) := az_wp_iff.trans az_go_gf
theorem az_s131_56 {a : Nat} : az_p131 C Q (56, lv, .ref a :: st, h) ↔ az_mf (h.1 a) 5 0 (fun v => az_p131 C Q (59, lv, v :: st, h)) := az_wp_iff.trans az_go_gf
theorem az_s131_59 {x : Int32} : az_p131 C Q (59, lv, [.int x], h) ↔ Q (some (.int x)) h := az_wp_iff
theorem az_s131_60 : az_p131 C Q (60, lv, st, h) ↔ az_ma (lv 0) (fun x => az_p131 C Q (61, lv, x :: st, h)) := az_wp_iff.trans az_go_lda
theorem az_s131_61 {a : Nat} : az_p131 C Q (61, lv, .ref a :: st, h) ↔ az_mf (h.1 a) 10 6 (fun v => az_p131 C Q (64, lv, v :: st, h)) := az_wp_iff.trans az_go_gf
theorem az_s131_64 {x : Int32} : az_p131 C Q (64, lv, .int x :: st, h) ↔ (x = 0 → az_p131 C Q (71, lv, st, h)) ∧ (¬ x = 0 → az_p131 C Q (67, lv, st, h)) := az_wp_iff.trans (az_go_if1 az_d_eq)
theorem az_s131_67 : az_p131 C Q (67, lv, st, h) ↔ az_p131 C Q (68, lv, .int (Int32.ofInt (1)) :: st, h) := az_wp_iff
theorem az_s131_68 : az_p131 C Q (68, lv, st, h) ↔ az_p131 C Q (72, lv, st, h) := az_wp_iff
theorem az_s131_71 : az_p131 C Q (71, lv, st, h) ↔ az_p131 C Q (72, lv, .int (Int32.ofInt (0)) :: st, h) := az_wp_iff
theorem az_s131_72 {x : Int32} : az_p131 C Q (72, lv, [.int x], h) ↔ Q (some (.int x)) h := az_wp_iff
theorem az_s131_73 : az_p131 C Q (73, lv, st, h) ↔ az_ma (lv 0) (fun x => az_p131 C Q (74, lv, x :: st, h)) := az_wp_iff.trans az_go_lda
theorem az_s131_74 {a : Nat} : az_p131 C Q (74, lv, .ref a :: st, h) ↔ az_mf (h.1 a) 10 7 (fun v => az_p131 C Q (77, lv, v :: st, h)) := az_wp_iff.trans az_go_gf
theorem az_s131_77 {x : Int32} : az_p131 C Q (77, lv, .int x :: st, h) ↔ (x = 0 → az_p131 C Q (84, lv, st, h)) ∧ (¬ x = 0 → az_p131 C Q (80, lv, st, h)) := az_wp_iff.trans (az_go_if1 az_d_eq)
theorem az_s131_80 : az_p131 C Q (80, lv, st, h) ↔ az_p131 C Q (81, lv, .int (Int32.ofInt (1)) :: st, h) := az_wp_iff
theorem az_s131_81 : az_p131 C Q (81, lv, st, h) ↔ az_p131 C Q (85, lv, st, h) := az_wp_iff
theorem az_s131_84 : az_p131 C Q (84, lv, st, h) ↔ az_p131 C Q (85, lv, .int (Int32.ofInt (0)) :: st, h) := az_wp_iff
theorem az_s131_85 {x : Int32} : az_p131 C Q (85, lv, [.int x], h) ↔ Q (some (.int x)) h := az_wp_iff
theorem az_s131_86 : az_p131 C Q (86, lv, st, h) ↔ az_ma (lv 0) (fun x => az_p131 C Q (87, lv, x :: st, h)) := az_wp_iff.trans az_go_lda
theorem az_s131_87 {a : Nat} : az_p131 C Q (87, lv, .ref a :: st, h) ↔ az_mf (h.1 a) 10 2 (fun v => az_p131 C Q (90, lv, v :: st, h)) := az_wp_iff.trans az_go_gf
theorem az_s131_90 {a : Nat} : az_p131 C Q (90, lv, .ref a :: st, h) ↔ az_mf (h.1 a) 3 6 (fun v => az_p131 C Q (93, lv, v :: st, h)) := az_wp_iff.trans az_go_gf
theorem az_s131_93 {x : Int32} : az_p131 C Q (93, lv, [.int x], h) ↔ Q (some (.int x)) h := az_wp_iff
theorem az_s131_94 : az_p131 C Q (94, lv, st, h) ↔ az_ma (lv 0) (fun x => az_p131 C Q (95, lv, x :: st, h)) := az_wp_iff.trans az_go_lda
theorem az_s131_95 {a : Nat} : az_p131 C Q (95, lv, .ref a :: st, h) ↔ az_mf (h.1 a) 10 0 (fun v => az_p131 C Q (98, lv, v :: st, h)) := az_wp_iff.trans az_go_gf
theorem az_s131_98 {a : Nat} : az_p131 C Q (98, lv, .ref a :: st, h) ↔ az_mf (h.1 a) 2 2 (fun v => az_p131 C Q (101, lv, v :: st, h)) := az_wp_iff.trans az_go_gf
theorem az_s131_101 {x : Int32} : az_p131 C Q (101, lv, [.int x], h) ↔ Q (some (.int x)) h := az_wp_iff
theorem az_s131_102 : az_p131 C Q (102, lv, st, h) ↔ az_ma (lv 0) (fun x => az_p131 C Q (103, lv, x :: st, h)) := az_wp_iff.trans az_go_lda
theorem az_s131_103 {a : Nat} : az_p131 C Q (103, lv, .ref a :: st, h) ↔ az_mf (h.1 a) 10 3 (fun v => az_p131 C Q (106, lv, v :: st, h)) := az_wp_iff.trans az_go_gf
theorem az_s131_106 {a : Nat} : az_p131 C Q (106, lv, .ref a :: st, h) ↔ az_mf (h.1 a) 1 3 (fun v => az_p131 C Q (109, lv, v :: st, h)) := az_wp_iff.trans az_go_gf
theorem az_s131_109 : az_p131 C Q (109, lv, st, h) ↔ az_ma (lv 0) (fun x => az_p131 C Q (110, lv, x :: st, h)) := az_wp_iff.trans az_go_lda
theorem az_s131_110 {a : Nat} : az_p131 C Q (110, lv, .ref a :: st, h) ↔ az_mf (h.1 a) 10 3 (fun v => az_p131 C Q (113, lv, v :: st, h)) := az_wp_iff.trans az_go_gf
theorem az_s131_113 {a : Nat} : az_p131 C Q (113, lv, .ref a :: st, h) ↔ az_mf (h.1 a) 1 4 (fun v => az_p131 C Q (116, lv, v :: st, h)) := az_wp_iff.trans az_go_gf
theorem az_s131_116 {x y : Int32} : az_p131 C Q (116, lv, .int y :: .int x :: st, h) ↔ az_p131 C Q (117, lv, .int (x - y) :: st, h) := az_wp_iff
theorem az_s131_117 {x : Int32} : az_p131 C Q (117, lv, [.int x], h) ↔ Q (some (.int x)) h := az_wp_iff
theorem az_s131_118 : az_p131 C Q (118, lv, st, h) ↔ az_p131 C Q (119, lv, .int (Int32.ofInt (-1)) :: st, h) := az_wp_iff
theorem az_s131_119 {x : Int32} : az_p131 C Q (119, lv, [.int x], h) ↔ Q (some (.int x)) h := az_wp_iff
def az_p132 (C : az_Cl) (Q : Option Value → az_H → Prop) : az_S → Prop := az_wp C (fun _ => none) (some .boolean) (az_fn az_k132) Q
theorem az_s132_0 : az_p132 C Q (0, lv, st, h) ↔ az_mi (lv 0) (fun x => az_p132 C Q (1, lv, .int x :: st, h)) := az_wp_iff.trans az_go_ldi
theorem az_s132_1 : az_p132 C Q (1, lv, st, h) ↔ az_mi (lv 1) (fun x => az_p132 C Q (2, lv, .int x :: st, h)) := az_wp_iff.trans az_go_ldi
theorem az_s132_2 {x y : Int32} : az_p132 C Q (2, lv, .int y :: .int x :: st, h) ↔ (x < y → az_p132 C Q (14, lv, st, h)) ∧ (¬ x < y → az_p132 C Q (5, lv, st, h)) := az_wp_iff.trans (az_go_if2 az_d_eq)
theorem az_s132_5 : az_p132 C Q (5, lv, st, h) ↔ az_mi (lv 0) (fun x => az_p132 C Q (6, lv, .int x :: st, h)) := az_wp_iff.trans az_go_ldi
theorem az_s132_6 : az_p132 C Q (6, lv, st, h) ↔ az_mi (lv 2) (fun x => az_p132 C Q (7, lv, .int x :: st, h)) := az_wp_iff.trans az_go_ldi
theorem az_s132_7 {x y : Int32} : az_p132 C Q (7, lv, .int y :: .int x :: st, h) ↔ (y < x → az_p132 C Q (14, lv, st, h)) ∧ (¬ y < x → az_p132 C Q (10, lv, st, h)) := az_wp_iff.trans (az_go_if2 az_d_eq)
theorem az_s132_10 : az_p132 C Q (10, lv, st, h) ↔ az_p132 C Q (11, lv, .int (Int32.ofInt (1)) :: st, h) := az_wp_iff
theorem az_s132_11 : az_p132 C Q (11, lv, st, h) ↔ az_p132 C Q (15, lv, st, h) := az_wp_iff
theorem az_s132_14 : az_p132 C Q (14, lv, st, h) ↔ az_p132 C Q (15, lv, .int (Int32.ofInt (0)) :: st, h) := az_wp_iff
theorem az_s132_15 {x : Int32} : az_p132 C Q (15, lv, [.int x], h) ↔ (x = 0 ∨ x = 1) ∧ Q (some (.int x)) h := az_wp_iff.trans az_go_if
def az_p190 (C : az_Cl) (Q : Option Value → az_H → Prop) : az_S → Prop := az_wp C (fun _ => none) none (az_fn az_k190) Q
theorem az_s190_0 : az_p190 C Q (0, lv, st, h) ↔ az_p190 C Q (1, lv, .int (Int32.ofInt (0)) :: st, h) := az_wp_iff
theorem az_s190_1 {x : Int32} : az_p190 C Q (1, lv, .int x :: st, h) ↔ az_p190 C Q (2, (az_s1 lv 2 (.int x)), st, h) := az_wp_iff
theorem az_s190_2 : az_p190 C Q (2, lv, st, h) ↔ az_ma (lv 0) (fun x => az_p190 C Q (3, lv, x :: st, h)) := az_wp_iff.trans az_go_lda
theorem az_s190_3 {a : Nat} : az_p190 C Q (3, lv, .ref a :: st, h) ↔ az_mn (h.1 a) (fun x => az_p190 C Q (4, lv, .int x :: st, h)) := az_wp_iff.trans az_go_aln
theorem az_s190_4 {x : Int32} : az_p190 C Q (4, lv, .int x :: st, h) ↔ az_p190 C Q (5, (az_s1 lv 3 (.int x)), st, h) := az_wp_iff
theorem az_s190_5 : az_p190 C Q (5, lv, st, h) ↔ az_mi (lv 2) (fun x => az_p190 C Q (6, lv, .int x :: st, h)) := az_wp_iff.trans az_go_ldi
theorem az_s190_6 : az_p190 C Q (6, lv, st, h) ↔ az_mi (lv 3) (fun x => az_p190 C Q (7, lv, .int x :: st, h)) := az_wp_iff.trans az_go_ldi
theorem az_s190_7 {x y : Int32} : az_p190 C Q (7, lv, .int y :: .int x :: st, h) ↔ (y ≤ x → az_p190 C Q (20, lv, st, h)) ∧ (¬ y ≤ x → az_p190 C Q (10, lv, st, h)) := az_wp_iff.trans (az_go_if2 az_d_eq)
theorem az_s190_10 : az_p190 C Q (10, lv, st, h) ↔ az_ma (lv 0) (fun x => az_p190 C Q (11, lv, x :: st, h)) := az_wp_iff.trans az_go_lda
theorem az_s190_11 : az_p190 C Q (11, lv, st, h) ↔ az_mi (lv 2) (fun x => az_p190 C Q (12, lv, .int x :: st, h)) := az_wp_iff.trans az_go_ldi
theorem az_s190_12 : az_p190 C Q (12, lv, st, h) ↔ az_mi (lv 1) (fun x => az_p190 C Q (13, lv, .int x :: st, h)) := az_wp_iff.trans az_go_ldi
theorem az_s190_13 {a : Nat} {i x : Int32} : az_p190 C Q (13, lv, .int x :: .int i :: .ref a :: st, h) ↔ az_mw' (h.1 a) i.toInt x (fun c => az_p190 C Q (14, lv, st, az_uh h a c)) := az_wp_iff.trans az_go_ias
theorem az_s190_14 : az_p190 C Q (14, lv, st, h) ↔ az_mi (lv 2) (fun x => az_p190 C Q (17, (az_s1 lv 2 (.int (x + Int32.ofInt (1)))), st, h)) := az_wp_iff.trans az_go_inc
theorem az_s190_17 : az_p190 C Q (17, lv, st, h) ↔ az_p190 C Q (5, lv, st, h) := az_wp_iff
theorem az_s190_20 : az_p190 C Q (20, lv, [], h) ↔ Q none h := az_wp_iff
def az_p191 (C : az_Cl) (Q : Option Value → az_H → Prop) : az_S → Prop := az_wp C (fun _ => none) (some (.array .int)) (az_fn az_k191) Q
theorem az_s191_0 : az_p191 C Q (0, lv, st, h) ↔ az_mi (lv 1) (fun x => az_p191 C Q (1, lv, .int x :: st, h)) := az_wp_iff.trans az_go_ldi
theorem az_s191_1 : az_p191 C Q (1, lv, st, h) ↔ az_ma (lv 0) (fun x => az_p191 C Q (2, lv, x :: st, h)) := az_wp_iff.trans az_go_lda
theorem az_s191_2 {a : Nat} : az_p191 C Q (2, lv, .ref a :: st, h) ↔ az_mn (h.1 a) (fun x => az_p191 C Q (3, lv, .int x :: st, h)) := az_wp_iff.trans az_go_aln
theorem az_s191_3 {x y : Int32} : az_p191 C Q (3, lv, .int y :: .int x :: st, h) ↔ (¬ x = y → az_p191 C Q (14, lv, st, h)) ∧ (¬ ¬ x = y → az_p191 C Q (6, lv, st, h)) := az_wp_iff.trans (az_go_if2 az_d_eq)
theorem az_s191_6 : az_p191 C Q (6, lv, st, h) ↔ az_ma (lv 0) (fun x => az_p191 C Q (7, lv, x :: st, h)) := az_wp_iff.trans az_go_lda
theorem az_s191_13 {x : Nat} : az_p191 C Q (13, lv, [.ref x], h) ↔ Q (some (.ref x)) h := az_wp_iff
theorem az_s191_13n : az_p191 C Q (13, lv, [.null], h) ↔ Q (some .null) h := az_wp_iff
theorem az_s191_14 : az_p191 C Q (14, lv, st, h) ↔ az_mi (lv 1) (fun x => az_p191 C Q (15, lv, .int x :: st, h)) := az_wp_iff.trans az_go_ldi
theorem az_s191_15 {n : Int32} : az_p191 C Q (15, lv, .int n :: st, h) ↔ (0 ≤ n.toInt ∧ n.toInt ≤ 65536) ∧ az_p191 C Q (17, lv, .ref h.2.1 :: st, az_nw h (az_ia 0 n.toInt.toNat (fun _ => 0)) n.toInt.toNat) := az_wp_iff.trans az_go_if
theorem az_s191_17 {x : Nat} : az_p191 C Q (17, lv, .ref x :: st, h) ↔ az_p191 C Q (18, (az_s1 lv 2 (.ref x)), st, h) := az_wp_iff
theorem az_s191_17n : az_p191 C Q (17, lv, .null :: st, h) ↔ az_p191 C Q (18, (az_s1 lv 2 .null), st, h) := az_wp_iff
theorem az_s191_18 : az_p191 C Q (18, lv, st, h) ↔ az_ma (lv 0) (fun x => az_p191 C Q (19, lv, x :: st, h)) := az_wp_iff.trans az_go_lda
theorem az_s191_19 : az_p191 C Q (19, lv, st, h) ↔ az_p191 C Q (20, lv, .int (Int32.ofInt (0)) :: st, h) := az_wp_iff
theorem az_s191_20 : az_p191 C Q (20, lv, st, h) ↔ az_ma (lv 2) (fun x => az_p191 C Q (21, lv, x :: st, h)) := az_wp_iff.trans az_go_lda
theorem az_s191_21 : az_p191 C Q (21, lv, st, h) ↔ az_p191 C Q (22, lv, .int (Int32.ofInt (0)) :: st, h) := az_wp_iff
theorem az_s191_22 : az_p191 C Q (22, lv, st, h) ↔ az_ma (lv 0) (fun x => az_p191 C Q (23, lv, x :: st, h)) := az_wp_iff.trans az_go_lda
theorem az_s191_23 {a : Nat} : az_p191 C Q (23, lv, .ref a :: st, h) ↔ az_mn (h.1 a) (fun x => az_p191 C Q (24, lv, .int x :: st, h)) := az_wp_iff.trans az_go_aln
theorem az_s191_24 : az_p191 C Q (24, lv, st, h) ↔ az_mi (lv 1) (fun x => az_p191 C Q (25, lv, .int x :: st, h)) := az_wp_iff.trans az_go_ldi
theorem az_s191_25 {x y : Int32} : az_p191 C Q (25, lv, .int y :: .int x :: st, h) ↔ az_cat st ≤ 8 ∧ az_p191 C Q (28, lv, .int (if decide (y < x) = true then y else x) :: st, h) := az_wp_iff.trans az_go_if
theorem az_s191_28 {a b : Nat} {n dp sp : Int32} : az_p191 C Q (28, lv, .int n :: .int dp :: .ref a :: .int sp :: .ref b :: st, h) ↔ az_mcp (h.1 b) (h.1 a) sp.toInt dp.toInt n.toInt st (fun c => az_p191 C Q (31, lv, st, az_uh h a c)) := az_wp_iff.trans az_go_ac
theorem az_s191_31 : az_p191 C Q (31, lv, st, h) ↔ az_ma (lv 2) (fun x => az_p191 C Q (32, lv, x :: st, h)) := az_wp_iff.trans az_go_lda
theorem az_s191_32 {x : Nat} : az_p191 C Q (32, lv, [.ref x], h) ↔ Q (some (.ref x)) h := az_wp_iff
theorem az_s191_32n : az_p191 C Q (32, lv, [.null], h) ↔ Q (some .null) h := az_wp_iff
end AzStC3
