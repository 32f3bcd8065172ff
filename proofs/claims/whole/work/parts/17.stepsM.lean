section AzStM
variable {C : az_Cl} {Q : Option Value → az_H → Prop} {lv : az_L} {st : List Value} {h : az_H}
def az_p133 (C : az_Cl) (Q : Option Value → az_H → Prop) : az_S → Prop := az_wp C (fun _ => none) none (az_fn az_k133) Q
theorem az_s133_0 : az_p133 C Q (0, lv, st, h) ↔ az_ma (lv 0) (fun x => az_p133 C Q (1, lv, x :: st, h)) := az_wp_iff.trans az_go_lda
theorem az_s133_1 {a : Nat} : az_p133 C Q (1, lv, .ref a :: st, h) ↔ az_cat st ≤ 8 ∧ az_p133 C Q (4, lv, st, h) := az_wp_iff.trans az_go_if
theorem az_s133_4 : az_p133 C Q (4, lv, st, h) ↔ az_ma (lv 0) (fun x => az_p133 C Q (5, lv, x :: st, h)) := az_wp_iff.trans az_go_lda
theorem az_s133_5 : az_p133 C Q (5, lv, st, h) ↔ az_p133 C Q (7, lv, .int (Int32.ofInt (16)) :: st, h) := az_wp_iff
theorem az_s133_7 {n : Int32} : az_p133 C Q (7, lv, .int n :: st, h) ↔ (0 ≤ n.toInt ∧ n.toInt ≤ 65536) ∧ az_p133 C Q (9, lv, .ref h.2.1 :: st, az_nw h (az_ia 0 n.toInt.toNat (fun _ => 0)) n.toInt.toNat) := az_wp_iff.trans az_go_if
theorem az_s133_9 {a : Nat} {v : Value} : az_p133 C Q (9, lv, v :: .ref a :: st, h) ↔ az_mp (h.1 a) 11 3 3 v (fun c => az_p133 C Q (12, lv, st, az_uh h a c)) := az_wp_iff.trans az_go_pf
theorem az_s133_12 : az_p133 C Q (12, lv, st, h) ↔ az_ma (lv 0) (fun x => az_p133 C Q (13, lv, x :: st, h)) := az_wp_iff.trans az_go_lda
theorem az_s133_13 : az_p133 C Q (13, lv, st, h) ↔ az_p133 C Q (15, lv, .int (Int32.ofInt (16)) :: st, h) := az_wp_iff
theorem az_s133_15 {n : Int32} : az_p133 C Q (15, lv, .int n :: st, h) ↔ (0 ≤ n.toInt ∧ n.toInt ≤ 65536) ∧ az_p133 C Q (17, lv, .ref h.2.1 :: st, az_nw h (az_ia 0 n.toInt.toNat (fun _ => 0)) n.toInt.toNat) := az_wp_iff.trans az_go_if
theorem az_s133_17 {a : Nat} {v : Value} : az_p133 C Q (17, lv, v :: .ref a :: st, h) ↔ az_mp (h.1 a) 11 4 3 v (fun c => az_p133 C Q (20, lv, st, az_uh h a c)) := az_wp_iff.trans az_go_pf
theorem az_s133_20 : az_p133 C Q (20, lv, st, h) ↔ az_ma (lv 0) (fun x => az_p133 C Q (21, lv, x :: st, h)) := az_wp_iff.trans az_go_lda
theorem az_s133_21 : az_p133 C Q (21, lv, st, h) ↔ az_p133 C Q (24, lv, .int (Int32.ofInt (640)) :: st, h) := az_wp_iff
theorem az_s133_24 {n : Int32} : az_p133 C Q (24, lv, .int n :: st, h) ↔ (0 ≤ n.toInt ∧ n.toInt ≤ 65536) ∧ az_p133 C Q (26, lv, .ref h.2.1 :: st, az_nw h (az_ia 0 n.toInt.toNat (fun _ => 0)) n.toInt.toNat) := az_wp_iff.trans az_go_if
theorem az_s133_26 {a : Nat} {v : Value} : az_p133 C Q (26, lv, v :: .ref a :: st, h) ↔ az_mp (h.1 a) 11 5 3 v (fun c => az_p133 C Q (29, lv, st, az_uh h a c)) := az_wp_iff.trans az_go_pf
theorem az_s133_29 : az_p133 C Q (29, lv, st, h) ↔ az_ma (lv 0) (fun x => az_p133 C Q (30, lv, x :: st, h)) := az_wp_iff.trans az_go_lda
theorem az_s133_30 : az_p133 C Q (30, lv, st, h) ↔ az_p133 C Q (32, lv, .int (Int32.ofInt (16)) :: st, h) := az_wp_iff
theorem az_s133_32 {n : Int32} : az_p133 C Q (32, lv, .int n :: st, h) ↔ (0 ≤ n.toInt ∧ n.toInt ≤ 65536) ∧ az_p133 C Q (34, lv, .ref h.2.1 :: st, az_nw h (az_ia 0 n.toInt.toNat (fun _ => 0)) n.toInt.toNat) := az_wp_iff.trans az_go_if
theorem az_s133_34 {a : Nat} {v : Value} : az_p133 C Q (34, lv, v :: .ref a :: st, h) ↔ az_mp (h.1 a) 11 6 3 v (fun c => az_p133 C Q (37, lv, st, az_uh h a c)) := az_wp_iff.trans az_go_pf
theorem az_s133_37 : az_p133 C Q (37, lv, st, h) ↔ az_ma (lv 0) (fun x => az_p133 C Q (38, lv, x :: st, h)) := az_wp_iff.trans az_go_lda
theorem az_s133_38 : az_p133 C Q (38, lv, st, h) ↔ az_p133 C Q (40, lv, .int (Int32.ofInt (12)) :: st, h) := az_wp_iff
theorem az_s133_40 {n : Int32} : az_p133 C Q (40, lv, .int n :: st, h) ↔ (0 ≤ n.toInt ∧ n.toInt ≤ 65536) ∧ az_p133 C Q (42, lv, .ref h.2.1 :: st, az_nw h (az_ia 1 n.toInt.toNat (fun _ => 0)) n.toInt.toNat) := az_wp_iff.trans az_go_if
theorem az_s133_42 {a : Nat} {v : Value} : az_p133 C Q (42, lv, v :: .ref a :: st, h) ↔ az_mp (h.1 a) 11 7 3 v (fun c => az_p133 C Q (45, lv, st, az_uh h a c)) := az_wp_iff.trans az_go_pf
theorem az_s133_45 : az_p133 C Q (45, lv, st, h) ↔ az_ma (lv 0) (fun x => az_p133 C Q (46, lv, x :: st, h)) := az_wp_iff.trans az_go_lda
theorem az_s133_46 : az_p133 C Q (46, lv, st, h) ↔ az_p133 C Q (48, lv, .int (Int32.ofInt (12)) :: st, h) := az_wp_iff
theorem az_s133_48 {n : Int32} : az_p133 C Q (48, lv, .int n :: st, h) ↔ (0 ≤ n.toInt ∧ n.toInt ≤ 65536) ∧ az_p133 C Q (50, lv, .ref h.2.1 :: st, az_nw h (az_ia 0 n.toInt.toNat (fun _ => 0)) n.toInt.toNat) := az_wp_iff.trans az_go_if
theorem az_s133_50 {a : Nat} {v : Value} : az_p133 C Q (50, lv, v :: .ref a :: st, h) ↔ az_mp (h.1 a) 11 8 3 v (fun c => az_p133 C Q (53, lv, st, az_uh h a c)) := az_wp_iff.trans az_go_pf
theorem az_s133_53 : az_p133 C Q (53, lv, st, h) ↔ az_ma (lv 0) (fun x => az_p133 C Q (54, lv, x :: st, h)) := az_wp_iff.trans az_go_lda
theorem az_s133_54 : az_p133 C Q (54, lv, st, h) ↔ az_p133 C Q (56, lv, .int (Int32.ofInt (12)) :: st, h) := az_wp_iff
theorem az_s133_56 {n : Int32} : az_p133 C Q (56, lv, .int n :: st, h) ↔ (0 ≤ n.toInt ∧ n.toInt ≤ 65536) ∧ az_p133 C Q (58, lv, .ref h.2.1 :: st, az_nw h (az_ia 0 n.toInt.toNat (fun _ => 0)) n.toInt.toNat) := az_wp_iff.trans az_go_if
theorem az_s133_58 {a : Nat} {v : Value} : az_p133 C Q (58, lv, v :: .ref a :: st, h) ↔ az_mp (h.1 a) 11 9 3 v (fun c => az_p133 C Q (61, lv, st, az_uh h a c)) := az_wp_iff.trans az_go_pf
theorem az_s133_61 : az_p133 C Q (61, lv, st, h) ↔ az_ma (lv 0) (fun x => az_p133 C Q (62, lv, x :: st, h)) := az_wp_iff.trans az_go_lda
theorem az_s133_62 : az_p133 C Q (62, lv, st, h) ↔ az_p133 C Q (64, lv, .int (Int32.ofInt (12)) :: st, h) := az_wp_iff
theorem az_s133_64 {n : Int32} : az_p133 C Q (64, lv, .int n :: st, h) ↔ (0 ≤ n.toInt ∧ n.toInt ≤ 65536) ∧ az_p133 C Q (66, lv, .ref h.2.1 :: st, az_nw h (az_ia 0 n.toInt.toNat (fun _ => 0)) n.toInt.toNat) := az_wp_iff.trans az_go_if
theorem az_s133_66 {a : Nat} {v : Value} : az_p133 C Q (66, lv, v :: .ref a :: st, h) ↔ az_mp (h.1 a) 11 10 3 v (fun c => az_p133 C Q (69, lv, st, az_uh h a c)) := az_wp_iff.trans az_go_pf
theorem az_s133_69 : az_p133 C Q (69, lv, st, h) ↔ az_ma (lv 0) (fun x => az_p133 C Q (70, lv, x :: st, h)) := az_wp_iff.trans az_go_lda
theorem az_s133_70 : az_p133 C Q (70, lv, st, h) ↔ az_p133 C Q (72, lv, .int (Int32.ofInt (12)) :: st, h) := az_wp_iff
theorem az_s133_72 {n : Int32} : az_p133 C Q (72, lv, .int n :: st, h) ↔ (0 ≤ n.toInt ∧ n.toInt ≤ 65536) ∧ az_p133 C Q (74, lv, .ref h.2.1 :: st, az_nw h (az_ia 0 n.toInt.toNat (fun _ => 0)) n.toInt.toNat) := az_wp_iff.trans az_go_if
theorem az_s133_74 {a : Nat} {v : Value} : az_p133 C Q (74, lv, v :: .ref a :: st, h) ↔ az_mp (h.1 a) 11 11 3 v (fun c => az_p133 C Q (77, lv, st, az_uh h a c)) := az_wp_iff.trans az_go_pf
theorem az_s133_77 : az_p133 C Q (77, lv, st, h) ↔ az_ma (lv 0) (fun x => az_p133 C Q (78, lv, x :: st, h)) := az_wp_iff.trans az_go_lda
theorem az_s133_78 : az_p133 C Q (78, lv, st, h) ↔ az_p133 C Q (80, lv, .int (Int32.ofInt (24)) :: st, h) := az_wp_iff
theorem az_s133_80 {n : Int32} : az_p133 C Q (80, lv, .int n :: st, h) ↔ (0 ≤ n.toInt ∧ n.toInt ≤ 65536) ∧ az_p133 C Q (82, lv, .ref h.2.1 :: st, az_nw h (az_ia 0 n.toInt.toNat (fun _ => 0)) n.toInt.toNat) := az_wp_iff.trans az_go_if
theorem az_s133_82 {a : Nat} {v : Value} : az_p133 C Q (82, lv, v :: .ref a :: st, h) ↔ az_mp (h.1 a) 11 12 3 v (fun c => az_p133 C Q (85, lv, st, az_uh h a c)) := az_wp_iff.trans az_go_pf
theorem az_s133_85 : az_p133 C Q (85, lv, st, h) ↔ az_ma (lv 0) (fun x => az_p133 C Q (86, lv, x :: st, h)) := az_wp_iff.trans az_go_lda
theorem az_s133_86 : az_p133 C Q (86, lv, st, h) ↔ az_p133 C Q (88, lv, .int (Int32.ofInt (12)) :: st, h) := az_wp_iff
theorem az_s133_88 {n : Int32} : az_p133 C Q (88, lv, .int n :: st, h) ↔ (0 ≤ n.toInt ∧ n.toInt ≤ 65536) ∧ az_p133 C Q (90, lv, .ref h.2.1 :: st, az_nw h (az_ia 0 n.toInt.toNat (fun _ => 0)) n.toInt.toNat) := az_wp_iff.trans az_go_if
theorem az_s133_90 {a : Nat} {v : Value} : az_p133 C Q (90, lv, v :: .ref a :: st, h) ↔ az_mp (h.1 a) 11 13 3 v (fun c => az_p133 C Q (93, lv, st, az_uh h a c)) := az_wp_iff.trans az_go_pf
theorem az_s133_93 : az_p133 C Q (93, lv, st, h) ↔ az_ma (lv 0) (fun x => az_p133 C Q (94, lv, x :: st, h)) := az_wp_iff.trans az_go_lda
theorem az_s133_94 : az_p133 C Q (94, lv, st, h) ↔ az_p133 C Q (96, lv, .int (Int32.ofInt (36)) :: st, h) := az_wp_iff
theorem az_s133_96 {n : Int32} : az_p133 C Q (96, lv, .int n :: st, h) ↔ (0 ≤ n.toInt ∧ n.toInt ≤ 65536) ∧ az_p133 C Q (98, lv, .ref h.2.1 :: st, az_nw h (az_ia 0 n.toInt.toNat (fun _ => 0)) n.toInt.toNat) := az_wp_iff.trans az_go_if
theorem az_s133_98 {a : Nat} {v : Value} : az_p133 C Q (98, lv, v :: .ref a :: st, h) ↔ az_mp (h.1 a) 11 14 3 v (fun c => az_p133 C Q (101, lv, st, az_uh h a c)) := az_wp_iff.trans az_go_pf
theorem az_s133_101 : az_p133 C Q (101, lv, st, h) ↔ az_ma (lv 0) (fun x => az_p133 C Q (102, lv, x :: st, h)) := az_wp_iff.trans az_go_lda
theorem az_s133_102 : az_p133 C Q (102, lv, st, h) ↔ az_p133 C Q (104, lv, .int (Int32.ofInt (36)) :: st, h) := az_wp_iff
theorem az_s133_104 {n : Int32} : az_p133 C Q (104, lv, .int n :: st, h) ↔ (0 ≤ n.toInt ∧ n.toInt ≤ 65536) ∧ az_p133 C Q (106, lv, .ref h.2.1 :: st, az_nw h (az_ia 0 n.toInt.toNat (fun _ => 0)) n.toInt.toNat) := az_wp_iff.trans az_go_if
theorem az_s133_106 {a : Nat} {v : Value} : az_p133 C Q (106, lv, v :: .ref a :: st, h) ↔ az_mp (h.1 a) 11 15 3 v (fun c => az_p133 C Q (109, lv, st, az_uh h a c)) := az_wp_iff.trans az_go_pf
theorem az_s133_109 : az_p133 C Q (109, lv, st, h) ↔ az_ma (lv 0) (fun x => az_p133 C Q (110, lv, x :: st, h)) := az_wp_iff.trans az_go_lda
theorem az_s133_110 : az_p133 C Q (110, lv, st, h) ↔ az_p133 C Q (112, lv, .int (Int32.ofInt (36)) :: st, h) := az_wp_iff
theorem az_s133_112 {n : Int32} : az_p133 C Q (112, lv, .int n :: st, h) ↔ (0 ≤ n.toInt ∧ n.toInt ≤ 65536) ∧ az_p133 C Q (114, lv, .ref h.2.1 :: st, az_nw h (az_ia 0 n.toInt.toNat (fun _ => 0)) n.toInt.toNat) := az_wp_iff.trans az_go_if
theorem az_s133_114 {a : Nat} {v : Value} : az_p133 C Q (114, lv, v :: .ref a :: st, h) ↔ az_mp (h.1 a) 11 16 3 v (fun c => az_p133 C Q (117, lv, st, az_uh h a c)) := az_wp_iff.trans az_go_pf
theorem az_s133_117 : az_p133 C Q (117, lv, st, h) ↔ az_ma (lv 0) (fun x => az_p133 C Q (118, lv, x :: st, h)) := az_wp_iff.trans az_go_lda
theorem az_s133_118 : az_p133 C Q (118, lv, st, h) ↔ az_p133 C Q (120, lv, .int (Int32.ofInt (12)) :: st, h) := az_wp_iff
theorem az_s133_120 {n : Int32} : az_p133 C Q (120, lv, .int n :: st, h) ↔ (0 ≤ n.toInt ∧ n.toInt ≤ 65536) ∧ az_p133 C Q (122, lv, .ref h.2.1 :: st, az_nw h (az_ia 0 n.toInt.toNat (fun _ => 0)) n.toInt.toNat) := az_wp_iff.trans az_go_if
theorem az_s133_122 {a : Nat} {v : Value} : az_p133 C Q (122, lv, v :: .ref a :: st, h) ↔ az_mp (h.1 a) 11 17 3 v (fun c => az_p133 C Q (125, lv, st, az_uh h a c)) := az_wp_iff.trans az_go_pf
theorem az_s133_125 : az_p133 C Q (125, lv, st, h) ↔ az_ma (lv 0) (fun x => az_p133 C Q (126, lv, x :: st, h)) := az_wp_iff.trans az_go_lda
theorem az_s133_126 : az_p133 C Q (126, lv, st, h) ↔ az_p133 C Q (128, lv, .int (Int32.ofInt (12)) :: st, h) := az_wp_iff
theorem az_s133_128 {n : Int32} : az_p133 C Q (128, lv, .int n :: st, h) ↔ (0 ≤ n.toInt ∧ n.toInt ≤ 65536) ∧ az_p133 C Q (130, lv, .ref h.2.1 :: st, az_nw h (az_ia 0 n.toInt.toNat (fun _ => 0)) n.toInt.toNat) := az_wp_iff.trans az_go_if
theorem az_s133_130 {a : Nat} {v : Value} : az_p133 C Q (130, lv, v :: .ref a :: st, h) ↔ az_mp (h.1 a) 11 18 3 v (fun c => az_p133 C Q (133, lv, st, az_uh h a c)) := az_wp_iff.trans az_go_pf
theorem az_s133_133 : az_p133 C Q (133, lv, st, h) ↔ az_ma (lv 0) (fun x => az_p133 C Q (134, lv, x :: st, h)) := az_wp_iff.trans az_go_lda
theorem az_s133_134 : az_p133 C Q (134, lv, st, h) ↔ az_p133 C Q (136, lv, .int (Int32.ofInt (12)) :: st, h) := az_wp_iff
theorem az_s133_136 {n : Int32} : az_p133 C Q (136, lv, .int n :: st, h) ↔ (0 ≤ n.toInt ∧ n.toInt ≤ 65536) ∧ az_p133 C Q (138, lv, .ref h.2.1 :: st, az_nw h (az_ia 0 n.toInt.toNat (fun _ => 0)) n.toInt.toNat) := az_wp_iff.trans az_go_if
theorem az_s133_138 {a : Nat} {v : Value} : az_p133 C Q (138, lv, v :: .ref a :: st, h) ↔ az_mp (h.1 a) 11 19 3 v (fun c => az_p133 C Q (141, lv, st, az_uh h a c)) := az_wp_iff.trans az_go_pf
theorem az_s133_141 : az_p133 C Q (141, lv, st, h) ↔ az_ma (lv 0) (fun x => az_p133 C Q (142, lv, x :: st, h)) := az_wp_iff.trans az_go_lda
theorem az_s133_142 : az_p133 C Q (142, lv, st, h) ↔ az_p133 C Q (144, lv, .int (Int32.ofInt (12)) :: st, h) := az_wp_iff
theorem az_s133_144 {n : Int32} : az_p133 C Q (144, lv, .int n :: st, h) ↔ (0 ≤ n.toInt ∧ n.toInt ≤ 65536) ∧ az_p133 C Q (146, lv, .ref h.2.1 :: st, az_nw h (az_ia 1 n.toInt.toNat (fun _ => 0)) n.toInt.toNat) := az_wp_iff.trans az_go_if
theorem az_s133_146 {a : Nat} {v : Value} : az_p133 C Q (146, lv, v :: .ref a :: st, h) ↔ az_mp (h.1 a) 11 20 3 v (fun c => az_p133 C Q (149, lv, st, az_uh h a c)) := az_wp_iff.trans az_go_pf
theorem az_s133_149 : az_p133 C Q (149, lv, st, h) ↔ az_ma (lv 0) (fun x => az_p133 C Q (150, lv, x :: st, h)) := az_wp_iff.trans az_go_lda
theorem az_s133_150 : az_p133 C Q (150, lv, st, h) ↔ az_p133 C Q (152, lv, .int (Int32.ofInt (12)) :: st, h) := az_wp_iff
theorem az_s133_152 {n : Int32} : az_p133 C Q (152, lv, .int n :: st, h) ↔ (0 ≤ n.toInt ∧ n.toInt ≤ 65536) ∧ az_p133 C Q (154, lv, .ref h.2.1 :: st, az_nw h (az_ia 0 n.toInt.toNat (fun _ => 0)) n.toInt.toNat) := az_wp_iff.trans az_go_if
theorem az_s133_154 {a : Nat} {v : Value} : az_p133 C Q (154, lv, v :: .ref a :: st, h) ↔ az_mp (h.1 a) 11 21 3 v (fun c => az_p133 C Q (157, lv, st, az_uh h a c)) := az_wp_iff.trans az_go_pf
theorem az_s133_157 : az_p133 C Q (157, lv, st, h) ↔ az_ma (lv 0) (fun x => az_p133 C Q (158, lv, x :: st, h)) := az_wp_iff.trans az_go_lda
theorem az_s133_158 : az_p133 C Q (158, lv, st, h) ↔ az_p133 C Q (160, lv, .int (Int32.ofInt (12)) :: st, h) := az_wp_iff
theorem az_s133_160 {n : Int32} : az_p133 C Q (160, lv, .int n :: st, h) ↔ (0 ≤ n.toInt ∧ n.toInt ≤ 65536) ∧ az_p133 C Q (162, lv, .ref h.2.1 :: st, az_nw h (az_ia 0 n.toInt.toNat (fun _ => 0)) n.toInt.toNat) := az_wp_iff.trans az_go_if
theorem az_s133_162 {a : Nat} {v : Value} : az_p133 C Q (162, lv, v :: .ref a :: st, h) ↔ az_mp (h.1 a) 11 22 3 v (fun c => az_p133 C Q (165, lv, st, az_uh h a c)) := az_wp_iff.trans az_go_pf
theorem az_s133_165 : az_p133 C Q (165, lv, st, h) ↔ az_ma (lv 0) (fun x => az_p133 C Q (166, lv, x :: st, h)) := az_wp_iff.trans az_go_lda
theorem az_s133_166 : az_p133 C Q (166, lv, st, h) ↔ az_p133 C Q (168, lv, .int (Int32.ofInt (12)) :: st, h) := az_wp_iff
theorem az_s133_168 {n : Int32} : az_p133 C Q (168, lv, .int n :: st, h) ↔ (0 ≤ n.toInt ∧ n.toInt ≤ 65536) ∧ az_p133 C Q (170, lv, .ref h.2.1 :: st, az_nw h (az_ia 0 n.toInt.toNat (fun _ => 0)) n.toInt.toNat) := az_wp_iff.trans az_go_if
theorem az_s133_170 {a : Nat} {v : Value} : az_p133 C Q (170, lv, v :: .ref a :: st, h) ↔ az_mp (h.1 a) 11 23 3 v (fun c => az_p133 C Q (173, lv, st, az_uh h a c)) := az_wp_iff.trans az_go_pf
theorem az_s133_173 : az_p133 C Q (173, lv, st, h) ↔ az_ma (lv 0) (fun x => az_p133 C Q (174, lv, x :: st, h)) := az_wp_iff.trans az_go_lda
theorem az_s133_174 : az_p133 C Q (174, lv, st, h) ↔ az_p133 C Q (176, lv, .int (Int32.ofInt (36)) :: st, h) := az_wp_iff
theorem az_s133_176 {n : Int32} : az_p133 C Q (176, lv, .int n :: st, h) ↔ (0 ≤ n.toInt ∧ n.toInt ≤ 65536) ∧ az_p133 C Q (178, lv, .ref h.2.1 :: st, az_nw h (az_la n.toInt.toNat (fun _ => 0)) n.toInt.toNat) := az_wp_iff.trans az_go_if
theorem az_s133_178 {a : Nat} {v : Value} : az_p133 C Q (178, lv, v :: .ref a :: st, h) ↔ az_mp (h.1 a) 11 24 3 v (fun c => az_p133 C Q (181, lv, st, az_uh h a c)) := az_wp_iff.trans az_go_pf
theorem az_s133_181 : az_p133 C Q (181, lv, st, h) ↔ az_ma (lv 0) (fun x => az_p133 C Q (182, lv, x :: st, h)) := az_wp_iff.trans az_go_lda
theorem az_s133_182 : az_p133 C Q (182, lv, st, h) ↔ az_p133 C Q (184, lv, .int (Int32.ofInt (36)) :: st, h) := az_wp_iff
theorem az_s133_184 {n : Int32} : az_p133 C Q (184, lv, .int n :: st, h) ↔ (0 ≤ n.toInt ∧ n.toInt ≤ 65536) ∧ az_p133 C Q (186, lv, .ref h.2.1 :: st, az_nw h (az_ia 0 n.toInt.toNat (fun _ => 0)) n.toInt.toNat) := az_wp_iff.trans az_go_if
theorem az_s133_186 {a : Nat} {v : Value} : az_p133 C Q (186, lv, v :: .ref a :: st, h) ↔ az_mp (h.1 a) 11 25 3 v (fun c => az_p133 C Q (189, lv, st, az_uh h a c)) := az_wp_iff.trans az_go_pf
theorem az_s133_189 : az_p133 C Q (189, lv, st, h) ↔ az_ma (lv 0) (fun x => az_p133 C Q (190, lv, x :: st, h)) := az_wp_iff.trans az_go_lda
theorem az_s133_190 : az_p133 C Q (190, lv, st, h) ↔ az_p133 C Q (192, lv, .int (Int32.ofInt (36)) :: st, h) := az_wp_iff
theorem az_s133_192 {n : Int32} : az_p133 C Q (192, lv, .int n :: st, h) ↔ (0 ≤ n.toInt ∧ n.toInt ≤ 65536) ∧ az_p133 C Q (194, lv, .ref h.2.1 :: st, az_nw h (az_ia 0 n.toInt.toNat (fun _ => 0)) n.toInt.toNat) := az_wp_iff.trans az_go_if
theorem az_s133_194 {a : Nat} {v : Value} : az_p133 C Q (194, lv, v :: .ref a :: st, h) ↔ az_mp (h.1 a) 11 26 3 v (fun c => az_p133 C Q (197, lv, st, az_uh h a c)) := az_wp_iff.trans az_go_pf
theorem az_s133_197 : az_p133 C Q (197, lv, st, h) ↔ az_ma (lv 0) (fun x => az_p133 C Q (198, lv, x :: st, h)) := az_wp_iff.trans az_go_lda
theorem az_s133_198 : az_p133 C Q (198, lv, st, h) ↔ az_p133 C Q (200, lv, .int (Int32.ofInt (120)) :: st, h) := az_wp_iff
theorem az_s133_200 {n : Int32} : az_p133 C Q (200, lv, .int n :: st, h) ↔ (0 ≤ n.toInt ∧ n.toInt ≤ 65536) ∧ az_p133 C Q (202, lv, .ref h.2.1 :: st, az_nw h (az_la n.toInt.toNat (fun _ => 0)) n.toInt.toNat) := az_wp_iff.trans az_go_if
theorem az_s133_202 {a : Nat} {v : Value} : az_p133 C Q (202, lv, v :: .ref a :: st, h) ↔ az_mp (h.1 a) 11 27 3 v (fun c => az_p133 C Q (205, lv, st, az_uh h a c)) := az_wp_iff.trans az_go_pf
theorem az_s133_205 : az_p133 C Q (205, lv, st, h) ↔ az_ma (lv 0) (fun x => az_p133 C Q (206, lv, x :: st, h)) := az_wp_iff.trans az_go_lda
theorem az_s133_206 : az_p133 C Q (206, lv, st, h) ↔ az_p133 C Q (208, lv, .int (Int32.ofInt (12)) :: st, h) := az_wp_iff
theorem az_s133_208 {n : Int32} : az_p133 C Q (208, lv, .int n :: st, h) ↔ (0 ≤ n.toInt ∧ n.toInt ≤ 65536) ∧ az_p133 C Q (210, lv, .ref h.2.1 :: st, az_nw h (az_ia 0 n.toInt.toNat (fun _ => 0)) n.toInt.toNat) := az_wp_iff.trans az_go_if
theorem az_s133_210 {a : Nat} {v : Value} : az_p133 C Q (210, lv, v :: .ref a :: st, h) ↔ az_mp (h.1 a) 11 28 3 v (fun c => az_p133 C Q (213, lv, st, az_uh h a c)) := az_wp_iff.trans az_go_pf
theorem az_s133_213 : az_p133 C Q (213, lv, st, h) ↔ az_ma (lv 0) (fun x => az_p133 C Q (214, lv, x :: st, h)) := az_wp_iff.trans az_go_lda
theorem az_s133_214 : az_p133 C Q (214, lv, st, h) ↔ az_p133 C Q (216, lv, .int (Int32.ofInt (12)) :: st, h) := az_wp_iff
theorem az_s133_216 {n : Int32} : az_p133 C Q (216, lv, .int n :: st, h) ↔ (0 ≤ n.toInt ∧ n.toInt ≤ 65536) ∧ az_p133 C Q (218, lv, .ref h.2.1 :: st, az_nw h (az_ia 0 n.toInt.toNat (fun _ => 0)) n.toInt.toNat) := az_wp_iff.trans az_go_if
theorem az_s133_218 {a : Nat} {v : Value} : az_p133 C Q (218, lv, v :: .ref a :: st, h) ↔ az_mp (h.1 a) 11 29 3 v (fun c => az_p133 C Q (221, lv, st, az_uh h a c)) := az_wp_iff.trans az_go_pf
theorem az_s133_221 : az_p133 C Q (221, lv, st, h) ↔ az_ma (lv 0) (fun x => az_p133 C Q (222, lv, x :: st, h)) := az_wp_iff.trans az_go_lda
theorem az_s133_222 : az_p133 C Q (222, lv, st, h) ↔ az_p133 C Q (224, lv, .int (Int32.ofInt (12)) :: st, h) := az_wp_iff
theorem az_s133_224 {n : Int32} : az_p133 C Q (224, lv, .int n :: st, h) ↔ (0 ≤ n.toInt ∧ n.toInt ≤ 65536) ∧ az_p133 C Q (226, lv, .ref h.2.1 :: st, az_nw h (az_ia 0 n.toInt.toNat (fun _ => 0)) n.toInt.toNat) := az_wp_iff.trans az_go_if
theorem az_s133_226 {a : Nat} {v : Value} : az_p133 C Q (226, lv, v :: .ref a :: st, h) ↔ az_mp (h.1 a) 11 30 3 v (fun c => az_p133 C Q (229, lv, st, az_uh h a c)) := az_wp_iff.trans az_go_pf
theorem az_s133_229 : az_p133 C Q (229, lv, st, h) ↔ az_ma (lv 0) (fun x => az_p133 C Q (230, lv, x :: st, h)) := az_wp_iff.trans az_go_lda
theorem az_s133_230 : az_p133 C Q (230, lv, st, h) ↔ az_p133 C Q (232, lv, .int (Int32.ofInt (12)) :: st, h) := az_wp_iff
theorem az_s133_232 {n : Int32} : az_p133 C Q (232, lv, .int n :: st, h) ↔ (0 ≤ n.toInt ∧ n.toInt ≤ 65536) ∧ az_p133 C Q (234, lv, .ref h.2.1 :: st, az_nw h (az_ia 0 n.toInt.toNat (fun _ => 0)) n.toInt.toNat) := az_wp_iff.trans az_go_if
theorem az_s133_234 {a : Nat} {v : Value} : az_p133 C Q (234, lv, v :: .ref a :: st, h) ↔ az_mp (h.1 a) 11 31 3 v (fun c => az_p133 C Q (237, lv, st, az_uh h a c)) := az_wp_iff.trans az_go_pf
theorem az_s133_237 : az_p133 C Q (237, lv, st, h) ↔ az_ma (lv 0) (fun x => az_p133 C Q (238, lv, x :: st, h)) := az_wp_iff.trans az_go_lda
theorem az_s133_238 : az_p133 C Q (238, lv, st, h) ↔ az_p133 C Q (240, lv, .int (Int32.ofInt (12)) :: st, h) := az_wp_iff
theorem az_s133_240 {n : Int32} : az_p133 C Q (240, lv, .int n :: st, h) ↔ (0 ≤ n.toInt ∧ n.toInt ≤ 65536) ∧ az_p133 C Q (242, lv, .ref h.2.1 :: st, az_nw h (az_ia 0 n.toInt.toNat (fun _ => 0)) n.toInt.toNat) := az_wp_iff.trans az_go_if
theorem az_s133_242 {a : Nat} {v : Value} : az_p133 C Q (242, lv, v :: .ref a :: st, h) ↔ az_mp (h.1 a) 11 32 3 v (fun c => az_p133 C Q (245, lv, st, az_uh h a c)) := az_wp_iff.trans az_go_pf
theorem az_s133_245 : az_p133 C Q (245, lv, st, h) ↔ az_ma (lv 0) (fun x => az_p133 C Q (246, lv, x :: st, h)) := az_wp_iff.trans az_go_lda
theorem az_s133_246 : az_p133 C Q (246, lv, st, h) ↔ az_p133 C Q (249, lv, .int (Int32.ofInt (1500)) :: st, h) := az_wp_iff
theorem az_s133_249 {n : Int32} : az_p133 C Q (249, lv, .int n :: st, h) ↔ (0 ≤ n.toInt ∧ n.toInt ≤ 65536) ∧ az_p133 C Q (251, lv, .ref h.2.1 :: st, az_nw h (az_la n.toInt.toNat (fun _ => 0)) n.toInt.toNat) := az_wp_iff.trans az_go_if
theorem az_s133_251 {a : Nat} {v : Value} : az_p133 C Q (251, lv, v :: .ref a :: st, h) ↔ az_mp (h.1 a) 11 34 3 v (fun c => az_p133 C Q (254, lv, st, az_uh h a c)) := az_wp_iff.trans az_go_pf
theorem az_s133_254 : az_p133 C Q (254, lv, st, h) ↔ az_ma (lv 0) (fun x => az_p133 C Q (255, lv, x :: st, h)) := az_wp_iff.trans az_go_lda
theorem az_s133_255 : az_p133 C Q (255, lv, st, h) ↔ az_p133 C Q (258, lv, .int (Int32.ofInt (1500)) :: st, h) := az_wp_iff
theorem az_s133_258 {n : Int32} : az_p133 C Q (258, lv, .int n :: st, h) ↔ (0 ≤ n.toInt ∧ n.toInt ≤ 65536) ∧ az_p133 C Q (260, lv, .ref h.2.1 :: st, az_nw h (az_ia 0 n.toInt.toNat (fun _ => 0)) n.toInt.toNat) := az_wp_iff.trans az_go_if
theorem az_s133_260 {a : Nat} {v : Value} : az_p133 C Q (260, lv, v :: .ref a :: st, h) ↔ az_mp (h.1 a) 11 35 3 v (fun c => az_p133 C Q (263, lv, st, az_uh h a c)) := az_wp_iff.trans az_go_pf
theorem az_s133_263 : az_p133 C Q (263, lv, st, h) ↔ az_ma (lv 0) (fun x => az_p133 C Q (264, lv, x :: st, h)) := az_wp_iff.trans az_go_lda
theorem az_s133_264 : az_p133 C Q (264, lv, st, h) ↔ az_p133 C Q (267, lv, .int (Int32.ofInt (1500)) :: st, h) := az_wp_iff
theorem az_s133_267 {n : Int32} : az_p133 C Q (267, lv, .int n :: st, h) ↔ (0 ≤ n.toInt ∧ n.toInt ≤ 65536) ∧ az_p133 C Q (269, lv, .ref h.2.1 :: st, az_nw h (az_ia 0 n.toInt.toNat (fun _ => 0)) n.toInt.toNat) := az_wp_iff.trans az_go_if
theorem az_s133_269 {a : Nat} {v : Value} : az_p133 C Q (269, lv, v :: .ref a :: st, h) ↔ az_mp (h.1 a) 11 36 3 v (fun c => az_p133 C Q (272, lv, st, az_uh h a c)) := az_wp_iff.trans az_go_pf
theorem az_s133_272 : az_p133 C Q (272, lv, st, h) ↔ az_ma (lv 0) (fun x => az_p133 C Q (273, lv, x :: st, h)) := az_wp_iff.trans az_go_lda
theorem az_s133_273 : az_p133 C Q (273, lv, st, h) ↔ az_p133 C Q (276, lv, .int (Int32.ofInt (6000)) :: st, h) := az_wp_iff
theorem az_s133_276 {n : Int32} : az_p133 C Q (276, lv, .int n :: st, h) ↔ (0 ≤ n.toInt ∧ n.toInt ≤ 65536) ∧ az_p133 C Q (278, lv, .ref h.2.1 :: st, az_nw h (az_ia 0 n.toInt.toNat (fun _ => 0)) n.toInt.toNat) := az_wp_iff.trans az_go_if
theorem az_s133_278 {a : Nat} {v : Value} : az_p133 C Q (278, lv, v :: .ref a :: st, h) ↔ az_mp (h.1 a) 11 37 3 v (fun c => az_p133 C Q (281, lv, st, az_uh h a c)) := az_wp_iff.trans az_go_pf
theorem az_s133_281 : az_p133 C Q (281, lv, st, h) ↔ az_ma (lv 0) (fun x => az_p133 C Q (282, lv, x :: st, h)) := az_wp_iff.trans az_go_lda
theorem az_s133_282 : az_p133 C Q (282, lv, st, h) ↔ az_p133 C Q (284, lv, .int (Int32.ofInt (40)) :: st, h) := az_wp_iff
theorem az_s133_284 {n : Int32} : az_p133 C Q (284, lv, .int n :: st, h) ↔ (0 ≤ n.toInt ∧ n.toInt ≤ 65536) ∧ az_p133 C Q (286, lv, .ref h.2.1 :: st, az_nw h (az_ia 0 n.toInt.toNat (fun _ => 0)) n.toInt.toNat) := az_wp_iff.trans az_go_if
theorem az_s133_286 {a : Nat} {v : Value} : az_p133 C Q (286, lv, v :: .ref a :: st, h) ↔ az_mp (h.1 a) 11 39 3 v (fun c => az_p133 C Q (289, lv, st, az_uh h a c)) := az_wp_iff.trans az_go_pf
theorem az_s133_289 : az_p133 C Q (289, lv, st, h) ↔ az_ma (lv 0) (fun x => az_p133 C Q (290, lv, x :: st, h)) := az_wp_iff.trans az_go_lda
theorem az_s133_290 : az_p133 C Q (290, lv, st, h) ↔ az_p133 C Q (292, lv, .int (Int32.ofInt (40)) :: st, h) := az_wp_iff
theorem az_s133_292 {n : Int32} : az_p133 C Q (292, lv, .int n :: st, h) ↔ (0 ≤ n.toInt ∧ n.toInt ≤ 65536) ∧ az_p133 C Q (294, lv, .ref h.2.1 :: st, az_nw h (az_ia 0 n.toInt.toNat (fun _ => 0)) n.toInt.toNat) := az_wp_iff.trans az_go_if
theorem az_s133_294 {a : Nat} {v : Value} : az_p133 C Q (294, lv, v :: .ref a :: st, h) ↔ az_mp (h.1 a) 11 40 3 v (fun c => az_p133 C Q (297, lv, st, az_uh h a c)) := az_wp_iff.trans az_go_pf
theorem az_s133_297 : az_p133 C Q (297, lv, st, h) ↔ az_ma (lv 0) (fun x => az_p133 C Q (298, lv, x :: st, h)) := az_wp_iff.trans az_go_lda
theorem az_s133_298 : az_p133 C Q (298, lv, st, h) ↔ az_p133 C Q (300, lv, .int (Int32.ofInt (40)) :: st, h) := az_wp_iff
theorem az_s133_300 {n : Int32} : az_p133 C Q (300, lv, .int n :: st, h) ↔ (0 ≤ n.toInt ∧ n.toInt ≤ 65536) ∧ az_p133 C Q (302, lv, .ref h.2.1 :: st, az_nw h (az_ia 0 n.toInt.toNat (fun _ => 0)) n.toInt.toNat) := az_wp_iff.trans az_go_if
theorem az_s133_302 {a : Nat} {v : Value} : az_p133 C Q (302, lv, v :: .ref a :: st, h) ↔ az_mp (h.1 a) 11 41 3 v (fun c => az_p133 C Q (305, lv, st, az_uh h a c)) := az_wp_iff.trans az_go_pf
theorem az_s133_305 : az_p133 C Q (305, lv, st, h) ↔ az_ma (lv 0) (fun x => az_p133 C Q (306, lv, x :: st, h)) := az_wp_iff.trans az_go_lda
theorem az_s133_306 : az_p133 C Q (306, lv, st, h) ↔ az_p133 C Q (308, lv, .int (Int32.ofInt (40)) :: st, h) := az_wp_iff
theorem az_s133_308 {n : Int32} : az_p133 C Q (308, lv, .int n :: st, h) ↔ (0 ≤ n.toInt ∧ n.toInt ≤ 65536) ∧ az_p133 C Q (310, lv, .ref h.2.1 :: st, az_nw h (az_ia 1 n.toInt.toNat (fun _ => 0)) n.toInt.toNat) := az_wp_iff.trans az_go_if
theorem az_s133_310 {a : Nat} {v : Value} : az_p133 C Q (310, lv, v :: .ref a :: st, h) ↔ az_mp (h.1 a) 11 42 3 v (fun c => az_p133 C Q (313, lv, st, az_uh h a c)) := az_wp_iff.trans az_go_pf
theorem az_s133_313 : az_p133 C Q (313, lv, st, h) ↔ az_ma (lv 0) (fun x => az_p133 C Q (314, lv, x :: st, h)) := az_wp_iff.trans az_go_lda
theorem az_s133_314 : az_p133 C Q (314, lv, st, h) ↔ az_p133 C Q (317, lv, .int (Int32.ofInt (1600)) :: st, h) := az_wp_iff
theorem az_s133_317 {n : Int32} : az_p133 C Q (317, lv, .int n :: st, h) ↔ (0 ≤ n.toInt ∧ n.toInt ≤ 65536) ∧ az_p133 C Q (319, lv, .ref h.2.1 :: st, az_nw h (az_ia 0 n.toInt.toNat (fun _ => 0)) n.toInt.toNat) := az_wp_iff.trans az_go_if
theorem az_s133_319 {a : Nat} {v : Value} : az_p133 C Q (319, lv, v :: .ref a :: st, h) ↔ az_mp (h.1 a) 11 44 3 v (fun c => az_p133 C Q (322, lv, st, az_uh h a c)) := az_wp_iff.trans az_go_pf
theorem az_s133_322 : az_p133 C Q (322, lv, st, h) ↔ az_ma (lv 0) (fun x => az_p133 C Q (323, lv, x :: st, h)) := az_wp_iff.trans az_go_lda
theorem az_s133_323 : az_p133 C Q (323, lv, st, h) ↔ az_p133 C Q (326, lv, .int (Int32.ofInt (1600)) :: st, h) := az_wp_iff
theorem az_s133_326 {n : Int32} : az_p133 C Q (326, lv, .int n :: st, h) ↔ (0 ≤ n.toInt ∧ n.toInt ≤ 65536) ∧ az_p133 C Q (328, lv, .ref h.2.1 :: st, az_nw h (az_ia 0 n.toInt.toNat (fun _ => 0)) n.toInt.toNat) := az_wp_iff.trans az_go_if
theorem az_s133_328 {a : Nat} {v : Value} : az_p133 C Q (328, lv, v :: .ref a :: st, h) ↔ az_mp (h.1 a) 11 45 3 v (fun c => az_p133 C Q (331, lv, st, az_uh h a c)) := az_wp_iff.trans az_go_pf
theorem az_s133_331 : az_p133 C Q (331, lv, st, h) ↔ az_ma (lv 0) (fun x => az_p133 C Q (332, lv, x :: st, h)) := az_wp_iff.trans az_go_lda
theorem az_s133_332 : az_p133 C Q (332, lv, st, h) ↔ az_p133 C Q (335, lv, .int (Int32.ofInt (1600)) :: st, h) := az_wp_iff
theorem az_s133_335 {n : Int32} : az_p133 C Q (335, lv, .int n :: st, h) ↔ (0 ≤ n.toInt ∧ n.toInt ≤ 65536) ∧ az_p133 C Q (337, lv, .ref h.2.1 :: st, az_nw h (az_ia 0 n.toInt.toNat (fun _ => 0)) n.toInt.toNat) := az_wp_iff.trans az_go_if
theorem az_s133_337 {a : Nat} {v : Value} : az_p133 C Q (337, lv, v :: .ref a :: st, h) ↔ az_mp (h.1 a) 11 46 3 v (fun c => az_p133 C Q (340, lv, st, az_uh h a c)) := az_wp_iff.trans az_go_pf
theorem az_s133_340 : az_p133 C Q (340, lv, st, h) ↔ az_ma (lv 0) (fun x => az_p133 C Q (341, lv, x :: st, h)) := az_wp_iff.trans az_go_lda
theorem az_s133_341 : az_p133 C Q (341, lv, st, h) ↔ az_p133 C Q (344, lv, .int (Int32.ofInt (1600)) :: st, h) := az_wp_iff
theorem az_s133_344 {n : Int32} : az_p133 C Q (344, lv, .int n :: st, h) ↔ (0 ≤ n.toInt ∧ n.toInt ≤ 65536) ∧ az_p133 C Q (346, lv, .ref h.2.1 :: st, az_nw h (az_ia 0 n.toInt.toNat (fun _ => 0)) n.toInt.toNat) := az_wp_iff.trans az_go_if
theorem az_s133_346 {a : Nat} {v : Value} : az_p133 C Q (346, lv, v :: .ref a :: st, h) ↔ az_mp (h.1 a) 11 47 3 v (fun c => az_p133 C Q (349, lv, st, az_uh h a c)) := az_wp_iff.trans az_go_pf
theorem az_s133_349 : az_p133 C Q (349, lv, st, h) ↔ az_ma (lv 0) (fun x => az_p133 C Q (350, lv, x :: st, h)) := az_wp_iff.trans az_go_lda
theorem az_s133_350 : az_p133 C Q (350, lv, st, h) ↔ az_p133 C Q (352, lv, .int (Int32.ofInt (10)) :: st, h) := az_wp_iff
theorem az_s133_352 {n : Int32} : az_p133 C Q (352, lv, .int n :: st, h) ↔ (0 ≤ n.toInt ∧ n.toInt ≤ 65536) ∧ az_p133 C Q (354, lv, .ref h.2.1 :: st, az_nw h (az_ia 0 n.toInt.toNat (fun _ => 0)) n.toInt.toNat) := az_wp_iff.trans az_go_if
theorem az_s133_354 {a : Nat} {v : Value} : az_p133 C Q (354, lv, v :: .ref a :: st, h) ↔ az_mp (h.1 a) 11 53 3 v (fun c => az_p133 C Q (357, lv, st, az_uh h a c)) := az_wp_iff.trans az_go_pf
theorem az_s133_357 : az_p133 C Q (357, lv, st, h) ↔ az_ma (lv 0) (fun x => az_p133 C Q (358, lv, x :: st, h)) := az_wp_iff.trans az_go_lda
theorem az_s133_358 : az_p133 C Q (358, lv, st, h) ↔ az_p133 C Q (360, lv, .int (Int32.ofInt (12)) :: st, h) := az_wp_iff
theorem az_s133_360 {n : Int32} : az_p133 C Q (360, lv, .int n :: st, h) ↔ (0 ≤ n.toInt ∧ n.toInt ≤ 65536) ∧ az_p133 C Q (362, lv, .ref h.2.1 :: st, az_nw h (az_ia 0 n.toInt.toNat (fun _ => 0)) n.toInt.toNat) := az_wp_iff.trans az_go_if
theorem az_s133_362 {a : Nat} {v : Value} : az_p133 C Q (362, lv, v :: .ref a :: st, h) ↔ az_mp (h.1 a) 11 54 3 v (fun c => az_p133 C Q (365, lv, st, az_uh h a c)) := az_wp_iff.trans az_go_pf
theorem az_s133_365 : az_p133 C Q (365, lv, st, h) ↔ az_p133 C Q (366, lv, .int (Int32.ofInt (0)) :: st, h) := az_wp_iff
theorem az_s133_366 {x : Int32} : az_p133 C Q (366, lv, .int x :: st, h) ↔ az_p133 C Q (367, (az_s1 lv 1 (.int x)), st, h) := az_wp_iff
theorem az_s133_367 : az_p133 C Q (367, lv, st, h) ↔ az_mi (lv 1) (fun x => az_p133 C Q (368, lv, .int x :: st, h)) := az_wp_iff.trans az_go_ldi
theorem az_s133_368 : az_p133 C Q (368, lv, st, h) ↔ az_p133 C Q (370, lv, .int (Int32.ofInt (12)) :: st, h) := az_wp_iff
theorem az_s133_370 {x y : Int32} : az_p133 C Q (370, lv, .int y :: .int x :: st, h) ↔ (y ≤ x → az_p133 C Q (400, lv, st, h)) ∧ (¬ y ≤ x → az_p133 C Q (373, lv, st, h)) := az_wp_iff.trans (az_go_if2 az_d_eq)
theorem az_s133_373 : az_p133 C Q (373, lv, st, h) ↔ az_ma (lv 0) (fun x => az_p133 C Q (374, lv, x :: st, h)) := az_wp_iff.trans az_go_lda
theorem az_s133_374 {a : Nat} : az_p133 C Q (374, lv, .ref a :: st, h) ↔ az_mf (h.1 a) 11 17 (fun v => az_p133 C Q (377, lv, v :: st, h)) := az_wp_iff.trans az_go_gf
theorem az_s133_377 : az_p133 C Q (377, lv, st, h) ↔ az_mi (lv 1) (fun x => az_p133 C Q (378, lv, .int x :: st, h)) := az_wp_iff.trans az_go_ldi
theorem az_s133_378 : az_p133 C Q (378, lv, st, h) ↔ az_p133 C Q (379, lv, .int (Int32.ofInt (5)) :: st, h) := az_wp_iff
theorem az_s133_379 {a : Nat} {i x : Int32} : az_p133 C Q (379, lv, .int x :: .int i :: .ref a :: st, h) ↔ az_mw' (h.1 a) i.toInt x (fun c => az_p133 C Q (380, lv, st, az_uh h a c)) := az_wp_iff.trans az_go_ias
theorem az_s133_380 : az_p133 C Q (380, lv, st, h) ↔ az_ma (lv 0) (fun x => az_p133 C Q (381, lv, x :: st, h)) := az_wp_iff.trans az_go_lda
theorem az_s133_381 {a : Nat} : az_p133 C Q (381, lv, .ref a :: st, h) ↔ az_mf (h.1 a) 11 21 (fun v => az_p133 C Q (384, lv, v :: st, h)) := az_wp_iff.trans az_go_gf
theorem az_s133_384 : az_p133 C Q (384, lv, st, h) ↔ az_mi (lv 1) (fun x => az_p133 C Q (385, lv, .int x :: st, h)) := az_wp_iff.trans az_go_ldi
theorem az_s133_385 : az_p133 C Q (385, lv, st, h) ↔ az_p133 C Q (386, lv, .int (Int32.ofInt (-1)) :: st, h) := az_wp_iff
theorem az_s133_386 {a : Nat} {i x : Int32} : az_p133 C Q (386, lv, .int x :: .int i :: .ref a :: st, h) ↔ az_mw' (h.1 a) i.toInt x (fun c => az_p133 C Q (387, lv, st, az_uh h a c)) := az_wp_iff.trans az_go_ias
theorem az_s133_387 : az_p133 C Q (387, lv, st, h) ↔ az_ma (lv 0) (fun x => az_p133 C Q (388, lv, x :: st, h)) := az_wp_iff.trans az_go_lda
theorem az_s133_388 {a : Nat} : az_p133 C Q (388, lv, .ref a :: st, h) ↔ az_mf (h.1 a) 11 22 (fun v => az_p133 C Q (391, lv, v :: st, h)) := az_wp_iff.trans az_go_gf
theorem az_s133_391 : az_p133 C Q (391, lv, st, h) ↔ az_mi (lv 1) (fun x => az_p133 C Q (392, lv, .int x :: st, h)) := az_wp_iff.trans az_go_ldi
theorem az_s133_392 : az_p133 C Q (392, lv, st, h) ↔ az_p133 C Q (393, lv, .int (Int32.ofInt (-1)) :: st, h) := az_wp_iff
theorem az_s133_393 {a : Nat} {i x : Int32} : az_p133 C Q (393, lv, .int x :: .int i :: .ref a :: st, h) ↔ az_mw' (h.1 a) i.toInt x (fun c => az_p133 C Q (394, lv, st, az_uh h a c)) := az_wp_iff.trans az_go_ias
theorem az_s133_394 : az_p133 C Q (394, lv, st, h) ↔ az_mi (lv 1) (fun x => az_p133 C Q (397, (az_s1 lv 1 (.int (x + Int32.ofInt (1)))), st, h)) := az_wp_iff.trans az_go_inc
theorem az_s133_397 : az_p133 C Q (397, lv, st, h) ↔ az_p133 C Q (367, lv, st, h) := az_wp_iff
theorem az_s133_400 : az_p133 C Q (400, lv, [], h) ↔ Q none h := az_wp_iff
def az_p134 (C : az_Cl) (Q : Option Value → az_H → Prop) : az_S → Prop := az_wp C (fun _ => none) (some .boolean) (az_fn az_k134) Q
theorem az_s134_0 : az_p134 C Q (0, lv, st, h) ↔ az_mi (lv 0) (fun x => az_p134 C Q (1, lv, .int x :: st, h)) := az_wp_iff.trans az_go_ldi
theorem az_s134_1 : az_p134 C Q (1, lv, st, h) ↔ az_mi (lv 1) (fun x => az_p134 C Q (2, lv, .int x :: st, h)) := az_wp_iff.trans az_go_ldi
theorem az_s134_2 {x y : Int32} : az_p134 C Q (2, lv, .int y :: .int x :: st, h) ↔ (x < y → az_p134 C Q (14, lv, st, h)) ∧ (¬ x < y → az_p134 C Q (5, lv, st, h)) := az_wp_iff.trans (az_go_if2 az_d_eq)
theorem az_s134_5 : az_p134 C Q (5, lv, st, h) ↔ az_mi (lv 0) (fun x => az_p134 C Q (6, lv, .int x :: st, h)) := az_wp_iff.trans az_go_ldi
theorem az_s134_6 : az_p134 C Q (6, lv, st, h) ↔ az_mi (lv 2) (fun x => az_p134 C Q (7, lv, .int x :: st, h)) := az_wp_iff.trans az_go_ldi
theorem az_s134_7 {x y : Int32} : az_p134 C Q (7, lv, .int y :: .int x :: st, h) ↔ (y < x → az_p134 C Q (14, lv, st, h)) ∧ (¬ y < x → az_p134 C Q (10, lv, st, h)) := az_wp_iff.trans (az_go_if2 az_d_eq)
theorem az_s134_10 : az_p134 C Q (10, lv, st, h) ↔ az_p134 C Q (11, lv, .int (Int32.ofInt (1)) :: st, h) := az_wp_iff
theorem az_s134_11 : az_p134 C Q (11, lv, st, h) ↔ az_p134 C Q (15, lv, st, h) := az_wp_iff
theorem az_s134_14 : az_p134 C Q (14, lv, st, h) ↔ az_p134 C Q (15, lv, .int (Int32.ofInt (0)) :: st, h) := az_wp_iff
theorem az_s134_15 {x : Int32} : az_p134 C Q (15, lv, [.int x], h) ↔ (x = 0 ∨ x = 1) ∧ Q (some (.int x)) h := az_wp_iff.trans az_go_if
def az_p135 (C : az_Cl) (Q : Option Value → az_H → Prop) : az_S → Prop := az_wp C (fun _ => none) (some .boolean) (az_fn az_k135) Q
theorem az_s135_0 : az_p135 C Q (0, lv, st, h) ↔ az_mi (lv 1) (fun x => az_p135 C Q (1, lv, .int x :: st, h)) := az_wp_iff.trans az_go_ldi
theorem az_s135_1 : az_p135 C Q (1, lv, st, h) ↔ az_p135 C Q (2, lv, .int (Int32.ofInt (0)) :: st, h) := az_wp_iff
theorem az_s135_2 : az_p135 C Q (2, lv, st, h) ↔ az_p135 C Q (4, lv, .int (Int32.ofInt (15)) :: st, h) := az_wp_iff
theorem az_s135_4 {v1 v2 v3 : Value} : az_p135 C Q (4, lv, v3 :: v2 :: v1 :: st, h) ↔ az_cat st ≤ 8 ∧ az_mc C 134 [v1, v2, v3] h (fun v h' => az_p135 C Q (7, lv, v ++ st, h')) := az_wp_iff.trans az_go_call
theorem az_s135_7 {x : Int32} : az_p135 C Q (7, lv, .int x :: st, h) ↔ (x = 0 → az_p135 C Q (23, lv, st, h)) ∧ (¬ x = 0 → az_p135 C Q (10, lv, st, h)) := az_wp_iff.trans (az_go_if1 az_d_eq)
theorem az_s135_10 : az_p135 C Q (10, lv, st, h) ↔ az_ma (lv 0) (fun x => az_p135 C Q (11, lv, x :: st, h)) := az_wp_iff.trans az_go_lda
theorem az_s135_11 {a : Nat} : az_p135 C Q (11, lv, .ref a :: st, h) ↔ az_mf (h.1 a) 11 3 (fun v => az_p135 C Q (14, lv, v :: st, h)) := az_wp_iff.trans az_go_gf
theorem az_s135_14 : az_p135 C Q (14, lv, st, h) ↔ az_mi (lv 1) (fun x => az_p135 C Q (15, lv, .int x :: st, h)) := az_wp_iff.trans az_go_ldi
theorem az_s135_15 {a : Nat} {i : Int32} : az_p135 C Q (15, lv, .int i :: .ref a :: st, h) ↔ az_mr (h.1 a) 0 i.toInt (fun x => az_p135 C Q (16, lv, .int x :: st, h)) := az_wp_iff.trans az_go_ial
theorem az_s135_16 {x : Int32} : az_p135 C Q (16, lv, .int x :: st, h) ↔ (x ≤ 0 → az_p135 C Q (23, lv, st, h)) ∧ (¬ x ≤ 0 → az_p135 C Q (19, lv, st, h)) := az_wp_iff.trans (az_go_if1 az_d_eq)
theorem az_s135_19 : az_p135 C Q (19, lv, st, h) ↔ az_p135 C Q (20, lv, .int (Int32.ofInt (1)) :: st, h) := az_wp_iff
theorem az_s135_20 : az_p135 C Q (20, lv, st, h) ↔ az_p135 C Q (24, lv, st, h) := az_wp_iff
theorem az_s135_23 : az_p135 C Q (23, lv, st, h) ↔ az_p135 C Q (24, lv, .int (Int32.ofInt (0)) :: st, h) := az_wp_iff
theorem az_s135_24 {x : Int32} : az_p135 C Q (24, lv, [.int x], h) ↔ (x = 0 ∨ x = 1) ∧ Q (some (.int x)) h := az_wp_iff.trans az_go_if
def az_p136 (C : az_Cl) (Q : Option Value → az_H → Prop) : az_S → Prop := az_wp C (fun _ => none) (some .boolean) (az_fn az_k136) Q
theorem az_s136_0 : az_p136 C Q (0, lv, st, h) ↔ az_mi (lv 1) (fun x => az_p136 C Q (1, lv, .int x :: st, h)) := az_wp_iff.trans az_go_ldi
theorem az_s136_1 : az_p136 C Q (1, lv, st, h) ↔ az_p136 C Q (2, lv, .int (Int32.ofInt (0)) :: st, h) := az_wp_iff
theorem az_s136_2 : az_p136 C Q (2, lv, st, h) ↔ az_p136 C Q (4, lv, .int (Int32.ofInt (11)) :: st, h) := az_wp_iff
theorem az_s136_4 {v1 v2 v3 : Value} : az_p136 C Q (4, lv, v3 :: v2 :: v1 :: st, h) ↔ az_cat st ≤ 8 ∧ az_mc C 134 [v1, v2, v3] h (fun v h' => az_p136 C Q (7, lv, v ++ st, h')) := az_wp_iff.trans az_go_call
theorem az_s136_7 {x : Int32} : az_p136 C Q (7, lv, .int x :: st, h) ↔ (x = 0 → az_p136 C Q (23, lv, st, h)) ∧ (¬ x = 0 → az_p136 C Q (10, lv, st, h)) := az_wp_iff.trans (az_go_if1 az_d_eq)
theorem az_s136_10 : az_p136 C Q (10, lv, st, h) ↔ az_ma (lv 0) (fun x => az_p136 C Q (11, lv, x :: st, h)) := az_wp_iff.trans az_go_lda
theorem az_s136_11 {a : Nat} : az_p136 C Q (11, lv, .ref a :: st, h) ↔ az_mf (h.1 a) 11 7 (fun v => az_p136 C Q (14, lv, v :: st, h)) := az_wp_iff.trans az_go_gf
theorem az_s136_14 : az_p136 C Q (14, lv, st, h) ↔ az_mi (lv 1) (fun x => az_p136 C Q (15, lv, .int x :: st, h)) := az_wp_iff.trans az_go_ldi
theorem az_s136_15 {a : Nat} {i : Int32} : az_p136 C Q (15, lv, .int i :: .ref a :: st, h) ↔ az_mr (h.1 a) 1 i.toInt (fun x => az_p136 C Q (16, lv, .int x :: st, h)) := az_wp_iff.trans az_go_ial
theorem az_s136_16 {x : Int32} : az_p136 C Q (16, lv, .int x :: st, h) ↔ (x = 0 → az_p136 C Q (23, lv, st, h)) ∧ (¬ x = 0 → az_p136 C Q (19, lv, st, h)) := az_wp_iff.trans (az_go_if1 az_d_eq)
theorem az_s136_19 : az_p136 C Q (19, lv, st, h) ↔ az_p136 C Q (20, lv, .int (Int32.ofInt (1)) :: st, h) := az_wp_iff
theorem az_s136_20 : az_p136 C Q (20, lv, st, h) ↔ az_p136 C Q (24, lv, st, h) := az_wp_iff
theorem az_s136_23 : az_p136 C Q (23, lv, st, h) ↔ az_p136 C Q (24, lv, .int (Int32.ofInt (0)) :: st, h) := az_wp_iff
theorem az_s136_24 {x : Int32} : az_p136 C Q (24, lv, [.int x], h) ↔ (x = 0 ∨ x = 1) ∧ Q (some (.int x)) h := az_wp_iff.trans az_go_if
def az_p137 (C : az_Cl) (Q : Option Value → az_H → Prop) : az_S → Prop := az_wp C (fun _ => none) (some .boolean) (az_fn az_k137) Q
theorem az_s137_0 : az_p137 C Q (0, lv, st, h) ↔ az_ma (lv 0) (fun x => az_p137 C Q (1, lv, x :: st, h)) := az_wp_iff.trans az_go_lda
theorem az_s137_1 {a : Nat} : az_p137 C Q (1, lv, .ref a :: st, h) ↔ az_mf (h.1 a) 11 0 (fun v => az_p137 C Q (4, lv, v :: st, h)) := az_wp_iff.trans az_go_gf
theorem az_s137_4 {x : Int32} : az_p137 C Q (4, lv, .int x :: st, h) ↔ (¬ x = 0 → az_p137 C Q (36, lv, st, h)) ∧ (¬ ¬ x = 0 → az_p137 C Q (7, lv, st, h)) := az_wp_iff.trans (az_go_if1 az_d_eq)
theorem az_s137_7 : az_p137 C Q (7, lv, st, h) ↔ az_mi (lv 1) (fun x => az_p137 C Q (8, lv, .int x :: st, h)) := az_wp_iff.trans az_go_ldi
theorem az_s137_8 : az_p137 C Q (8, lv, st, h) ↔ az_p137 C Q (9, lv, .int (Int32.ofInt (0)) :: st, h) := az_wp_iff
theorem az_s137_9 : az_p137 C Q (9, lv, st, h) ↔ az_p137 C Q (11, lv, .int (Int32.ofInt (15)) :: st, h) := az_wp_iff
theorem az_s137_11 {v1 v2 v3 : Value} : az_p137 C Q (11, lv, v3 :: v2 :: v1 :: st, h) ↔ az_cat st ≤ 8 ∧ az_mc C 134 [v1, v2, v3] h (fun v h' => az_p137 C Q (14, lv, v ++ st, h')) := az_wp_iff.trans az_go_call
theorem az_s137_14 {x : Int32} : az_p137 C Q (14, lv, .int x :: st, h) ↔ (x = 0 → az_p137 C Q (36, lv, st, h)) ∧ (¬ x = 0 → az_p137 C Q (17, lv, st, h)) := az_wp_iff.trans (az_go_if1 az_d_eq)
theorem az_s137_17 : az_p137 C Q (17, lv, st, h) ↔ az_mi (lv 2) (fun x => az_p137 C Q (18, lv, .int x :: st, h)) := az_wp_iff.trans az_go_ldi
theorem az_s137_18 : az_p137 C Q (18, lv, st, h) ↔ az_p137 C Q (19, lv, .int (Int32.ofInt (1)) :: st, h) := az_wp_iff
theorem az_s137_19 : az_p137 C Q (19, lv, st, h) ↔ az_p137 C Q (21, lv, .int (Int32.ofInt (20)) :: st, h) := az_wp_iff
theorem az_s137_21 {v1 v2 v3 : Value} : az_p137 C Q (21, lv, v3 :: v2 :: v1 :: st, h) ↔ az_cat st ≤ 8 ∧ az_mc C 134 [v1, v2, v3] h (fun v h' => az_p137 C Q (24, lv, v ++ st, h')) := az_wp_iff.trans az_go_call
theorem az_s137_24 {x : Int32} : az_p137 C Q (24, lv, .int x :: st, h) ↔ (x = 0 → az_p137 C Q (36, lv, st, h)) ∧ (¬ x = 0 → az_p137 C Q (27, lv, st, h)) := az_wp_iff.trans (az_go_if1 az_d_eq)
theorem az_s137_27 : az_p137 C Q (27, lv, st, h) ↔ az_ma (lv 0) (fun x => az_p137 C Q (28, lv, x :: st, h)) := az_wp_iff.trans az_go_lda
theorem az_s137_28 {a : Nat} : az_p137 C Q (28, lv, .ref a :: st, h) ↔ az_mf (h.1 a) 11 3 (fun v => az_p137 C Q (31, lv, v :: st, h)) := az_wp_iff.trans az_go_gf
theorem az_s137_31 : az_p137 C Q (31, lv, st, h) ↔ az_mi (lv 1) (fun x => az_p137 C Q (32, lv, .int x :: st, h)) := az_wp_iff.trans az_go_ldi
theorem az_s137_32 {a : Nat} {i : Int32} : az_p137 C Q (32, lv, .int i :: .ref a :: st, h) ↔ az_mr (h.1 a) 0 i.toInt (fun x => az_p137 C Q (33, lv, .int x :: st, h)) := az_wp_iff.trans az_go_ial
theorem az_s137_33 {x : Int32} : az_p137 C Q (33, lv, .int x :: st, h) ↔ (x ≤ 0 → az_p137 C Q (38, lv, st, h)) ∧ (¬ x ≤ 0 → az_p137 C Q (36, lv, st, h)) := az_wp_iff.trans (az_go_if1 az_d_eq)
theorem az_s137_36 : az_p137 C Q (36, lv, st, h) ↔ az_p137 C Q (37, lv, .int (Int32.ofInt (0)) :: st, h) := az_wp_iff
theorem az_s137_37 {x : Int32} : az_p137 C Q (37, lv, [.int x], h) ↔ (x = 0 ∨ x = 1) ∧ Q (some (.int x)) h := az_wp_iff.trans az_go_if
theorem az_s137_38 : az_p137 C Q (38, lv, st, h) ↔ az_ma (lv 0) (fun x => az_p137 C Q (39, lv, x :: st, h)) := az_wp_iff.trans az_go_lda
theorem az_s137_39 {a : Nat} : az_p137 C Q (39, lv, .ref a :: st, h) ↔ az_mf (h.1 a) 11 3 (fun v => az_p137 C Q (42, lv, v :: st, h)) := az_wp_iff.trans az_go_gf
theorem az_s137_42 : az_p137 C Q (42, lv, st, h) ↔ az_mi (lv 1) (fun x => az_p137 C Q (43, lv, .int x :: st, h)) := az_wp_iff.trans az_go_ldi
theorem az_s137_43 : az_p137 C Q (43, lv, st, h) ↔ az_mi (lv 2) (fun x => az_p137 C Q (44, lv, .int x :: st, h)) := az_wp_iff.trans az_go_ldi
theorem az_s137_44 {a : Nat} {i x : Int32} : az_p137 C Q (44, lv, .int x :: .int i :: .ref a :: st, h) ↔ az_mw' (h.1 a) i.toInt x (fun c => az_p137 C Q (45, lv, st, az_uh h a c)) := az_wp_iff.trans az_go_ias
theorem az_s137_45 : az_p137 C Q (45, lv, st, h) ↔ az_p137 C Q (46, lv, .int (Int32.ofInt (1)) :: st, h) := az_wp_iff
theorem az_s137_46 {x : Int32} : az_p137 C Q (46, lv, [.int x], h) ↔ (x = 0 ∨ x = 1) ∧ Q (some (.int x)) h := az_wp_iff.trans az_go_if
def az_p138 (C : az_Cl) (Q : Option Value → az_H → Prop) : az_S → Prop := az_wp C (fun _ => none) (some .boolean) (az_fn az_k138) Q
theorem az_s138_0 : az_p138 C Q (0, lv, st, h) ↔ az_mi (lv 0) (fun x => az_p138 C Q (1, lv, .int x :: st, h)) := az_wp_iff.trans az_go_ldi
theorem az_s138_1 {x : Int32} : az_p138 C Q (1, lv, .int x :: st, h) ↔ (x.toInt = 0 → az_p138 C Q (40, lv, st, h)) ∧ (¬ x.toInt = 0 → (x.toInt = 1 → az_p138 C Q (49, lv, st, h)) ∧ (¬ x.toInt = 1 → (x.toInt = 2 → az_p138 C Q (74, lv, st, h)) ∧ (¬ x.toInt = 2 → (x.toInt = 3 → az_p138 C Q (58, lv, st, h)) ∧ (¬ x.toInt = 3 → (x.toInt = 4 → az_p138 C Q (74, lv, st, h)) ∧ (¬ x.toInt = 4 → (x.toInt = 5 → az_p138 C Q (66, lv, st, h)) ∧ (¬ x.toInt = 5 → az_p138 C Q (74, lv, st, h))))))) := az_wp_iff.trans (az_sel_iff (K := fun t => az_p138 C Q (t, lv, st, h)) _ _ _)
theorem az_s138_40 : az_p138 C Q (40, lv, st, h) ↔ az_mi (lv 1) (fun x => az_p138 C Q (41, lv, .int x :: st, h)) := az_wp_iff.trans az_go_ldi
theorem az_s138_41 : az_p138 C Q (41, lv, st, h) ↔ az_p138 C Q (42, lv, .int (Int32.ofInt (0)) :: st, h) := az_wp_iff
theorem az_s138_42 : az_p138 C Q (42, lv, st, h) ↔ az_p138 C Q (45, lv, .int (Int32.ofInt (900)) :: st, h) := az_wp_iff
theorem az_s138_45 {v1 v2 v3 : Value} : az_p138 C Q (45, lv, v3 :: v2 :: v1 :: st, h) ↔ az_cat st ≤ 8 ∧ az_mc C 134 [v1, v2, v3] h (fun v h' => az_p138 C Q (48, lv, v ++ st, h')) := az_wp_iff.trans az_go_call
theorem az_s138_48 {x : Int32} : az_p138 C Q (48, lv, [.int x], h) ↔ (x = 0 ∨ x = 1) ∧ Q (some (.int x)) h := az_wp_iff.trans az_go_if
theorem az_s138_49 : az_p138 C Q (49, lv, st, h) ↔ az_mi (lv 1) (fun x => az_p138 C Q (50, lv, .int x :: st, h)) := az_wp_iff.trans az_go_ldi
theorem az_s138_50 : az_p138 C Q (50, lv, st, h) ↔ az_p138 C Q (51, lv, .int (Int32.ofInt (1)) :: st, h) := az_wp_iff
theorem az_s138_51 : az_p138 C Q (51, lv, st, h) ↔ az_p138 C Q (54, lv, .int (Int32.ofInt (500)) :: st, h) := az_wp_iff
theorem az_s138_54 {v1 v2 v3 : Value} : az_p138 C Q (54, lv, v3 :: v2 :: v1 :: st, h) ↔ az_cat st ≤ 8 ∧ az_mc C 134 [v1, v2, v3] h (fun v h' => az_p138 C Q (57, lv, v ++ st, h')) := az_wp_iff.trans az_go_call
theorem az_s138_57 {x : Int32} : az_p138 C Q (57, lv, [.int x], h) ↔ (x = 0 ∨ x = 1) ∧ Q (some (.int x)) h := az_wp_iff.trans az_go_if
theorem az_s138_58 : az_p138 C Q (58, lv, st, h) ↔ az_mi (lv 1) (fun x => az_p138 C Q (59, lv, .int x :: st, h)) := az_wp_iff.trans az_go_ldi
theorem az_s138_59 : az_p138 C Q (59, lv, st, h) ↔ az_p138 C Q (60, lv, .int (Int32.ofInt (0)) :: st, h) := az_wp_iff
theorem az_s138_60 : az_p138 C Q (60, lv, st, h) ↔ az_p138 C Q (62, lv, .int (Int32.ofInt (9)) :: st, h) := az_wp_iff
theorem az_s138_62 {v1 v2 v3 : Value} : az_p138 C Q (62, lv, v3 :: v2 :: v1 :: st, h) ↔ az_cat st ≤ 8 ∧ az_mc C 134 [v1, v2, v3] h (fun v h' => az_p138 C Q (65, lv, v ++ st, h')) := az_wp_iff.trans az_go_call
theorem az_s138_65 {x : Int32} : az_p138 C Q (65, lv, [.int x], h) ↔ (x = 0 ∨ x = 1) ∧ Q (some (.int x)) h := az_wp_iff.trans az_go_if
theorem az_s138_66 : az_p138 C Q (66, lv, st, h) ↔ az_mi (lv 1) (fun x => az_p138 C Q (67, lv, .int x :: st, h)) := az_wp_iff.trans az_go_ldi
theorem az_s138_67 : az_p138 C Q (67, lv, st, h) ↔ az_p138 C Q (68, lv, .int (Int32.ofInt (1)) :: st, h) := az_wp_iff
theorem az_s138_68 : az_p138 C Q (68, lv, st, h) ↔ az_p138 C Q (70, lv, .int (Int32.ofInt (50000)) :: st, h) := az_wp_iff
theorem az_s138_70 {v1 v2 v3 : Value} : az_p138 C Q (70, lv, v3 :: v2 :: v1 :: st, h) ↔ az_cat st ≤ 8 ∧ az_mc C 134 [v1, v2, v3] h (fun v h' => az_p138 C Q (73, lv, v ++ st, h')) := az_wp_iff.trans az_go_call
theorem az_s138_73 {x : Int32} : az_p138 C Q (73, lv, [.int x], h) ↔ (x = 0 ∨ x = 1) ∧ Q (some (.int x)) h := az_wp_iff.trans az_go_if
theorem az_s138_74 : az_p138 C Q (74, lv, st, h) ↔ az_p138 C Q (75, lv, .int (Int32.ofInt (1)) :: st, h) := az_wp_iff
theorem az_s138_75 {x : Int32} : az_p138 C Q (75, lv, [.int x], h) ↔ (x = 0 ∨ x = 1) ∧ Q (some (.int x)) h := az_wp_iff.trans az_go_if
def az_p139 (C : az_Cl) (Q : Option Value → az_H → Prop) : az_S → Prop := az_wp C (fun _ => none) (some .boolean) (az_fn az_k139) Q
theorem az_s139_0 : az_p139 C Q (0, lv, st, h) ↔ az_ma (lv 0) (fun x => az_p139 C Q (1, lv, x :: st, h)) := az_wp_iff.trans az_go_lda
theorem az_s139_1 {a : Nat} : az_p139 C Q (1, lv, .ref a :: st, h) ↔ az_mf (h.1 a) 11 0 (fun v => az_p139 C Q (4, lv, v :: st, h)) := az_wp_iff.trans az_go_gf
theorem az_s139_4 {x : Int32} : az_p139 C Q (4, lv, .int x :: st, h) ↔ (¬ x = 0 → az_p139 C Q (54, lv, st, h)) ∧ (¬ ¬ x = 0 → az_p139 C Q (7, lv, st, h)) := az_wp_iff.trans (az_go_if1 az_d_eq)
theorem az_s139_7 : az_p139 C Q (7, lv, st, h) ↔ az_mi (lv 1) (fun x => az_p139 C Q (8, lv, .int x :: st, h)) := az_wp_iff.trans az_go_ldi
theorem az_s139_8 : az_p139 C Q (8, lv, st, h) ↔ az_p139 C Q (9, lv, .int (Int32.ofInt (0)) :: st, h) := az_wp_iff
theorem az_s139_9 : az_p139 C Q (9, lv, st, h) ↔ az_p139 C Q (11, lv, .int (Int32.ofInt (11)) :: st, h) := az_wp_iff
theorem az_s139_11 {v1 v2 v3 : Value} : az_p139 C Q (11, lv, v3 :: v2 :: v1 :: st, h) ↔ az_cat st ≤ 8 ∧ az_mc C 134 [v1, v2, v3] h (fun v h' => az_p139 C Q (14, lv, v ++ st, h')) := az_wp_iff.trans az_go_call
theorem az_s139_14 {x : Int32} : az_p139 C Q (14, lv, .int x :: st, h) ↔ (x = 0 → az_p139 C Q (54, lv, st, h)) ∧ (¬ x = 0 → az_p139 C Q (17, lv, st, h)) := az_wp_iff.trans (az_go_if1 az_d_eq)
theorem az_s139_17 : az_p139 C Q (17, lv, st, h) ↔ az_ma (lv 0) (fun x => az_p139 C Q (18, lv, x :: st, h)) := az_wp_iff.trans az_go_lda
theorem az_s139_18 {a : Nat} : az_p139 C Q (18, lv, .ref a :: st, h) ↔ az_mf (h.1 a) 11 7 (fun v => az_p139 C Q (21, lv, v :: st, h)) := az_wp_iff.trans az_go_gf
theorem az_s139_21 : az_p139 C Q (21, lv, st, h) ↔ az_mi (lv 1) (fun x => az_p139 C Q (22, lv, .int x :: st, h)) := az_wp_iff.trans az_go_ldi
theorem az_s139_22 {a : Nat} {i : Int32} : az_p139 C Q (22, lv, .int i :: .ref a :: st, h) ↔ az_mr (h.1 a) 1 i.toInt (fun x => az_p139 C Q (23, lv, .int x :: st, h)) := az_wp_iff.trans az_go_ial
theorem az_s139_23 {x : Int32} : az_p139 C Q (23, lv, .int x :: st, h) ↔ (¬ x = 0 → az_p139 C Q (54, lv, st, h)) ∧ (¬ ¬ x = 0 → az_p139 C Q (26, lv, st, h)) := az_wp_iff.trans (az_go_if1 az_d_eq)
theorem az_s139_26 : az_p139 C Q (26, lv, st, h) ↔ az_mi (lv 2) (fun x => az_p139 C Q (27, lv, .int x :: st, h)) := az_wp_iff.trans az_go_ldi
theorem az_s139_27 : az_p139 C Q (27, lv, st, h) ↔ az_p139 C Q (28, lv, .int (Int32.ofInt (0)) :: st, h) := az_wp_iff
theorem az_s139_28 : az_p139 C Q (28, lv, st, h) ↔ az_p139 C Q (29, lv, .int (Int32.ofInt (5)) :: st, h) := az_wp_iff
theorem az_s139_29 {v1 v2 v3 : Value} : az_p139 C Q (29, lv, v3 :: v2 :: v1 :: st, h) ↔ az_cat st ≤ 8 ∧ az_mc C 134 [v1, v2, v3] h (fun v h' => az_p139 C Q (32, lv, v ++ st, h')) := az_wp_iff.trans az_go_call
theorem az_s139_32 {x : Int32} : az_p139 C Q (32, lv, .int x :: st, h) ↔ (x = 0 → az_p139 C Q (54, lv, st, h)) ∧ (¬ x = 0 → az_p139 C Q (35, lv, st, h)) := az_wp_iff.trans (az_go_if1 az_d_eq)
theorem az_s139_35 : az_p139 C Q (35, lv, st, h) ↔ az_mi (lv 2) (fun x => az_p139 C Q (36, lv, .int x :: st, h)) := az_wp_iff.trans az_go_ldi
theorem az_s139_36 : az_p139 C Q (36, lv, st, h) ↔ az_mi (lv 3) (fun x => az_p139 C Q (37, lv, .int x :: st, h)) := az_wp_iff.trans az_go_ldi
theorem az_s139_37 {v1 v2 : Value} : az_p139 C Q (37, lv, v2 :: v1 :: st, h) ↔ az_cat st ≤ 8 ∧ az_mc C 138 [v1, v2] h (fun v h' => az_p139 C Q (40, lv, v ++ st, h')) := az_wp_iff.trans az_go_call
theorem az_s139_40 {x : Int32} : az_p139 C Q (40, lv, .int x :: st, h) ↔ (x = 0 → az_p139 C Q (54, lv, st, h)) ∧ (¬ x = 0 → az_p139 C Q (43, lv, st, h)) := az_wp_iff.trans (az_go_if1 az_d_eq)
theorem az_s139_43 : az_p139 C Q (43, lv, st, h) ↔ az_mi (lv 4) (fun x => az_p139 C Q (45, lv, .int x :: st, h)) := az_wp_iff.trans az_go_ldi
theorem az_s139_45 : az_p139 C Q (45, lv, st, h) ↔ az_p139 C Q (46, lv, .int (Int32.ofInt (1)) :: st, h) := az_wp_iff
theorem az_s139_46 : az_p139 C Q (46, lv, st, h) ↔ az_p139 C Q (48, lv, .int (Int32.ofInt (20)) :: st, h) := az_wp_iff
theorem az_s139_48 {v1 v2 v3 : Value} : az_p139 C Q (48, lv, v3 :: v2 :: v1 :: st, h) ↔ az_cat st ≤ 8 ∧ az_mc C 134 [v1, v2, v3] h (fun v h' => az_p139 C Q (51, lv, v ++ st, h')) := az_wp_iff.trans az_go_call
theorem az_s139_51 {x : Int32} : az_p139 C Q (51, lv, .int x :: st, h) ↔ (¬ x = 0 → az_p139 C Q (56, lv, st, h)) ∧ (¬ ¬ x = 0 → az_p139 C Q (54, lv, st, h)) := az_wp_iff.trans (az_go_if1 az_d_eq)
theorem az_s139_54 : az_p139 C Q (54, lv, st, h) ↔ az_p139 C Q (55, lv, .int (Int32.ofInt (0)) :: st, h) := az_wp_iff
theorem az_s139_55 {x : Int32} : az_p139 C Q (55, lv, [.int x], h) ↔ (x = 0 ∨ x = 1) ∧ Q (some (.int x)) h := az_wp_iff.trans az_go_if
theorem az_s139_56 : az_p139 C Q (56, lv, st, h) ↔ az_ma (lv 0) (fun x => az_p139 C Q (57, lv, x :: st, h)) := az_wp_iff.trans az_go_lda
theorem az_s139_57 {a : Nat} : az_p139 C Q (57, lv, .ref a :: st, h) ↔ az_mf (h.1 a) 11 7 (fun v => az_p139 C Q (60, lv, v :: st, h)) := az_wp_iff.trans az_go_gf
theorem az_s139_60 : az_p139 C Q (60, lv, st, h) ↔ az_mi (lv 1) (fun x => az_p139 C Q (61, lv, .int x :: st, h)) := az_wp_iff.trans az_go_ldi
theorem az_s139_61 : az_p139 C Q (61, lv, st, h) ↔ az_p139 C Q (62, lv, .int (Int32.ofInt (1)) :: st, h) := az_wp_iff
theorem az_s139_62 {a : Nat} {i x : Int32} : az_p139 C Q (62, lv, .int x :: .int i :: .ref a :: st, h) ↔ az_mz (h.1 a) i.toInt x (fun c => az_p139 C Q (63, lv, st, az_uh h a c)) := az_wp_iff.trans az_go_zas
theorem az_s139_63 : az_p139 C Q (63, lv, st, h) ↔ az_ma (lv 0) (fun x => az_p139 C Q (64, lv, x :: st, h)) := az_wp_iff.trans az_go_lda
theorem az_s139_64 {a : Nat} : az_p139 C Q (64, lv, .ref a :: st, h) ↔ az_mf (h.1 a) 11 8 (fun v => az_p139 C Q (67, lv, v :: st, h)) := az_wp_iff.trans az_go_gf
theorem az_s139_67 : az_p139 C Q (67, lv, st, h) ↔ az_mi (lv 1) (fun x => az_p139 C Q (68, lv, .int x :: st, h)) := az_wp_iff.trans az_go_ldi
theorem az_s139_68 : az_p139 C Q (68, lv, st, h) ↔ az_mi (lv 2) (fun x => az_p139 C Q (69, lv, .int x :: st, h)) := az_wp_iff.trans az_go_ldi
theorem az_s139_69 {a : Nat} {i x : Int32} : az_p139 C Q (69, lv, .int x :: .int i :: .ref a :: st, h) ↔ az_mw' (h.1 a) i.toInt x (fun c => az_p139 C Q (70, lv, st, az_uh h a c)) := az_wp_iff.trans az_go_ias
theorem az_s139_70 : az_p139 C Q (70, lv, st, h) ↔ az_ma (lv 0) (fun x => az_p139 C Q (71, lv, x :: st, h)) := az_wp_iff.trans az_go_lda
theorem az_s139_71 {a : Nat} : az_p139 C Q (71, lv, .ref a :: st, h) ↔ az_mf (h.1 a) 11 9 (fun v => az_p139 C Q (74, lv, v :: st, h)) := az_wp_iff.trans az_go_gf
theorem az_s139_74 : az_p139 C Q (74, lv, st, h) ↔ az_mi (lv 1) (fun x => az_p139 C Q (75, lv, .int x :: st, h)) := az_wp_iff.trans az_go_ldi
theorem az_s139_75 : az_p139 C Q (75, lv, st, h) ↔ az_mi (lv 3) (fun x => az_p139 C Q (76, lv, .int x :: st, h)) := az_wp_iff.trans az_go_ldi
theorem az_s139_76 {a : Nat} {i x : Int32} : az_p139 C Q (76, lv, .int x :: .int i :: .ref a :: st, h) ↔ az_mw' (h.1 a) i.toInt x (fun c => az_p139 C Q (77, lv, st, az_uh h a c)) := az_wp_iff.trans az_go_ias
theorem az_s139_77 : az_p139 C Q (77, lv, st, h) ↔ az_ma (lv 0) (fun x => az_p139 C Q (78, lv, x :: st, h)) := az_wp_iff.trans az_go_lda
theorem az_s139_78 {a : Nat} : az_p139 C Q (78, lv, .ref a :: st, h) ↔ az_mf (h.1 a) 11 10 (fun v => az_p139 C Q (81, lv, v :: st, h)) := az_wp_iff.trans az_go_gf
theorem az_s139_81 : az_p139 C Q (81, lv, st, h) ↔ az_mi (lv 1) (fun x => az_p139 C Q (82, lv, .int x :: st, h)) := az_wp_iff.trans az_go_ldi
theorem az_s139_82 : az_p139 C Q (82, lv, st, h) ↔ az_mi (lv 4) (fun x => az_p139 C Q (84, lv, .int x :: st, h)) := az_wp_iff.trans az_go_ldi
theorem az_s139_84 {a : Nat} {i x : Int32} : az_p139 C Q (84, lv, .int x :: .int i :: .ref a :: st, h) ↔ az_mw' (h.1 a) i.toInt x (fun c => az_p139 C Q (85, lv, st, az_uh h a c)) := az_wp_iff.trans az_go_ias
theorem az_s139_85 : az_p139 C Q (85, lv, st, h) ↔ az_p139 C Q (86, lv, .int (Int32.ofInt (1)) :: st, h) := az_wp_iff
theorem az_s139_86 {x : Int32} : az_p139 C Q (86, lv, [.int x], h) ↔ (x = 0 ∨ x = 1) ∧ Q (some (.int x)) h := az_wp_iff.trans az_go_if
def az_p140 (C : az_Cl) (Q : Option Value → az_H → Prop) : az_S → Prop := az_wp C (fun _ => none) (some .int) (az_fn az_k140) Q
theorem az_s140_0 : az_p140 C Q (0, lv, st, h) ↔ az_ma (lv 0) (fun x => az_p140 C Q (1, lv, x :: st, h)) := az_wp_iff.trans az_go_lda
theorem az_s140_1 {a : Nat} : az_p140 C Q (1, lv, .ref a :: st, h) ↔ az_mf (h.1 a) 11 8 (fun v => az_p140 C Q (4, lv, v :: st, h)) := az_wp_iff.trans az_go_gf
theorem az_s140_4 : az_p140 C Q (4, lv, st, h) ↔ az_mi (lv 1) (fun x => az_p140 C Q (5, lv, .int x :: st, h)) := az_wp_iff.trans az_go_ldi
theorem az_s140_5 {a : Nat} {i : Int32} : az_p140 C Q (5, lv, .int i :: .ref a :: st, h) ↔ az_mr (h.1 a) 0 i.toInt (fun x => az_p140 C Q (6, lv, .int x :: st, h)) := az_wp_iff.trans az_go_ial
theorem az_s140_6 : az_p140 C Q (6, lv, st, h) ↔ az_p140 C Q (7, lv, .int (Int32.ofInt (4)) :: st, h) := az_wp_iff
theorem az_s140_7 {x y : Int32} : az_p140 C Q (7, lv, .int y :: .int x :: st, h) ↔ (¬ x = y → az_p140 C Q (14, lv, st, h)) ∧ (¬ ¬ x = y → az_p140 C Q (10, lv, st, h)) := az_wp_iff.trans (az_go_if2 az_d_eq)
theorem az_s140_10 : az_p140 C Q (10, lv, st, h) ↔ az_p140 C Q (11, lv, .int (Int32.ofInt (2)) :: st, h) := az_wp_iff
theorem az_s140_11 : az_p140 C Q (11, lv, st, h) ↔ az_p140 C Q (15, lv, st, h) := az_wp_iff
theorem az_s140_14 : az_p140 C Q (14, lv, st, h) ↔ az_p140 C Q (15, lv, .int (Int32.ofInt (1)) :: st, h) := az_wp_iff
theorem az_s140_15 {x : Int32} : az_p140 C Q (15, lv, [.int x], h) ↔ Q (some (.int x)) h := az_wp_iff
def az_p141 (C : az_Cl) (Q : Option Value → az_H → Prop) : az_S → Prop := az_wp C (fun _ => none) (some .int) (az_fn az_k141) Q
theorem az_s141_0 : az_p141 C Q (0, lv, st, h) ↔ az_ma (lv 0) (fun x => az_p141 C Q (1, lv, x :: st, h)) := az_wp_iff.trans az_go_lda
theorem az_s141_1 {a : Nat} : az_p141 C Q (1, lv, .ref a :: st, h) ↔ az_mf (h.1 a) 11 8 (fun v => az_p141 C Q (4, lv, v :: st, h)) := az_wp_iff.trans az_go_gf
theorem az_s141_4 : az_p141 C Q (4, lv, st, h) ↔ az_mi (lv 1) (fun x => az_p141 C Q (5, lv, .int x :: st, h)) := az_wp_iff.trans az_go_ldi
theorem az_s141_5 {a : Nat} {i : Int32} : az_p141 C Q (5, lv, .int i :: .ref a :: st, h) ↔ az_mr (h.1 a) 0 i.toInt (fun x => az_p141 C Q (6, lv, .int x :: st, h)) := az_wp_iff.trans az_go_ial
theorem az_s141_6 : az_p141 C Q (6, lv, st, h) ↔ az_p141 C Q (7, lv, .int (Int32.ofInt (5)) :: st, h) := az_wp_iff
theorem az_s141_7 {x y : Int32} : az_p141 C Q (7, lv, .int y :: .int x :: st, h) ↔ (¬ x = y → az_p141 C Q (14, lv, st, h)) ∧ (¬ ¬ x = y → az_p141 C Q (10, lv, st, h)) := az_wp_iff.trans (az_go_if2 az_d_eq)
theorem az_s141_10 : az_p141 C Q (10, lv, st, h) ↔ az_p141 C Q (11, lv, .int (Int32.ofInt (0)) :: st, h) := az_wp_iff
theorem az_s141_11 : az_p141 C Q (11, lv, st, h) ↔ az_p141 C Q (51, lv, st, h) := az_wp_iff
theorem az_s141_14 : az_p141 C Q (14, lv, st, h) ↔ az_ma (lv 0) (fun x => az_p141 C Q (15, lv, x :: st, h)) := az_wp_iff.trans az_go_lda
theorem az_s141_15 {a : Nat} : az_p141 C Q (15, lv, .ref a :: st, h) ↔ az_mf (h.1 a) 11 8 (fun v => az_p141 C Q (18, lv, v :: st, h)) := az_wp_iff.trans az_go_gf
theorem az_s141_18 : az_p141 C Q (18, lv, st, h) ↔ az_mi (lv 1) (fun x => az_p141 C Q (19, lv, .int x :: st, h)) := az_wp_iff.trans az_go_ldi
theorem az_s141_19 {a : Nat} {i : Int32} : az_p141 C Q (19, lv, .int i :: .ref a :: st, h) ↔ az_mr (h.1 a) 0 i.toInt (fun x => az_p141 C Q (20, lv, .int x :: st, h)) := az_wp_iff.trans az_go_ial
theorem az_s141_20 : az_p141 C Q (20, lv, st, h) ↔ az_p141 C Q (21, lv, .int (Int32.ofInt (2)) :: st, h) := az_wp_iff
theorem az_s141_21 {x y : Int32} : az_p141 C Q (21, lv, .int y :: .int x :: st, h) ↔ (¬ x = y → az_p141 C Q (36, lv, st, h)) ∧ (¬ ¬ x = y → az_p141 C Q (24, lv, st, h)) := az_wp_iff.trans (az_go_if2 az_d_eq)
theorem az_s141_24 : az_p141 C Q (24, lv, st, h) ↔ az_mi (lv 2) (fun x => az_p141 C Q (25, lv, .int x :: st, h)) := az_wp_iff.trans az_go_ldi
theorem az_s141_25 {x : Int32} : az_p141 C Q (25, lv, .int x :: st, h) ↔ (x = 0 → az_p141 C Q (32, lv, st, h)) ∧ (¬ x = 0 → az_p141 C Q (28, lv, st, h)) := az_wp_iff.trans (az_go_if1 az_d_eq)
theorem az_s141_28 : az_p141 C Q (28, lv, st, h) ↔ az_p141 C Q (29, lv, .int (Int32.ofInt (2)) :: st, h) := az_wp_iff
theorem az_s141_29 : az_p141 C Q (29, lv, st, h) ↔ az_p141 C Q (51, lv, st, h) := az_wp_iff
theorem az_s141_32 : az_p141 C Q (32, lv, st, h) ↔ az_p141 C Q (33, lv, .int (Int32.ofInt (3)) :: st, h) := az_wp_iff
theorem az_s141_33 : az_p141 C Q (33, lv, st, h) ↔ az_p141 C Q (51, lv, st, h) := az_wp_iff
theorem az_s141_36 : az_p141 C Q (36, lv, st, h) ↔ az_ma (lv 0) (fun x => az_p141 C Q (37, lv, x :: st, h)) := az_wp_iff.trans az_go_lda
theorem az_s141_37 {a : Nat} : az_p141 C Q (37, lv, .ref a :: st, h) ↔ az_mf (h.1 a) 11 8 (fun v => az_p141 C Q (40, lv, v :: st, h)) := az_wp_iff.trans az_go_gf
theorem az_s141_40 : az_p141 C Q (40, lv, st, h) ↔ az_mi (lv 1) (fun x => az_p141 C Q (41, lv, .int x :: st, h)) := az_wp_iff.trans az_go_ldi
theorem az_s141_41 {a : Nat} {i : Int32} : az_p141 C Q (41, lv, .int i :: .ref a :: st, h) ↔ az_mr (h.1 a) 0 i.toInt (fun x => az_p141 C Q (42, lv, .int x :: st, h)) := az_wp_iff.trans az_go_ial
theorem az_s141_42 : az_p141 C Q (42, lv, st, h) ↔ az_p141 C Q (43, lv, .int (Int32.ofInt (3)) :: st, h) := az_wp_iff
theorem az_s141_43 {x y : Int32} : az_p141 C Q (43, lv, .int y :: .int x :: st, h) ↔ (¬ x = y → az_p141 C Q (50, lv, st, h)) ∧ (¬ ¬ x = y → az_p141 C Q (46, lv, st, h)) := az_wp_iff.trans (az_go_if2 az_d_eq)
theorem az_s141_46 : az_p141 C Q (46, lv, st, h) ↔ az_p141 C Q (47, lv, .int (Int32.ofInt (2)) :: st, h) := az_wp_iff
theorem az_s141_47 : az_p141 C Q (47, lv, st, h) ↔ az_p141 C Q (51, lv, st, h) := az_wp_iff
theorem az_s141_50 : az_p141 C Q (50, lv, st, h) ↔ az_p141 C Q (51, lv, .int (Int32.ofInt (1)) :: st, h) := az_wp_iff
theorem az_s141_51 {x : Int32} : az_p141 C Q (51, lv, [.int x], h) ↔ Q (some (.int x)) h := az_wp_iff
def az_p142 (C : az_Cl) (Q : Option Value → az_H → Prop) : az_S → Prop := az_wp C (fun _ => none) (some .int) (az_fn az_k142) Q
theorem az_s142_0 : az_p142 C Q (0, lv, st, h) ↔ az_ma (lv 0) (fun x => az_p142 C Q (1, lv, x :: st, h)) := az_wp_iff.trans az_go_lda
theorem az_s142_1 {a : Nat} : az_p142 C Q (1, lv, .ref a :: st, h) ↔ az_mf (h.1 a) 11 0 (fun v => az_p142 C Q (4, lv, v :: st, h)) := az_wp_iff.trans az_go_gf
theorem az_s142_4 {x : Int32} : az_p142 C Q (4, lv, .int x :: st, h) ↔ (¬ x = 0 → az_p142 C Q (37, lv, st, h)) ∧ (¬ ¬ x = 0 → az_p142 C Q (7, lv, st, h)) := az_wp_iff.trans (az_go_if1 az_d_eq)
theorem az_s142_7 : az_p142 C Q (7, lv, st, h) ↔ az_ma (lv 0) (fun x => az_p142 C Q (8, lv, x :: st, h)) := az_wp_iff.trans az_go_lda
theorem az_s142_8 : az_p142 C Q (8, lv, st, h) ↔ az_mi (lv 1) (fun x => az_p142 C Q (9, lv, .int x :: st, h)) := az_wp_iff.trans az_go_ldi
theorem az_s142_9 {a : Nat} {v1 : Value} : az_p142 C Q (9, lv, v1 :: .ref a :: st, h) ↔ az_isob (h.1 a) 11 = true ∧ az_cat st ≤ 8 ∧ az_mc C 136 [.ref a, v1] h (fun v h' => az_p142 C Q (12, lv, v ++ st, h')) := az_wp_iff.trans (az_go_if.trans (and_congr Iff.rfl az_go_call))
theorem az_s142_12 {x : Int32} : az_p142 C Q (12, lv, .int x :: st, h) ↔ (x = 0 → az_p142 C Q (37, lv, st, h)) ∧ (¬ x = 0 → az_p142 C Q (15, lv, st, h)) := az_wp_iff.trans (az_go_if1 az_d_eq)
theorem az_s142_15 : az_p142 C Q (15, lv, st, h) ↔ az_ma (lv 0) (fun x => az_p142 C Q (16, lv, x :: st, h)) := az_wp_iff.trans az_go_lda
theorem az_s142_16 : az_p142 C Q (16, lv, st, h) ↔ az_mi (lv 2) (fun x => az_p142 C Q (17, lv, .int x :: st, h)) := az_wp_iff.trans az_go_ldi
theorem az_s142_17 {a : Nat} {v1 : Value} : az_p142 C Q (17, lv, v1 :: .ref a :: st, h) ↔ az_isob (h.1 a) 11 = true ∧ az_cat st ≤ 8 ∧ az_mc C 135 [.ref a, v1] h (fun v h' => az_p142 C Q (20, lv, v ++ st, h')) := az_wp_iff.trans (az_go_if.trans (and_congr Iff.rfl az_go_call))
theorem az_s142_20 {x : Int32} : az_p142 C Q (20, lv, .int x :: st, h) ↔ (x = 0 → az_p142 C Q (37, lv, st, h)) ∧ (¬ x = 0 → az_p142 C Q (23, lv, st, h)) := az_wp_iff.trans (az_go_if1 az_d_eq)
theorem az_s142_23 : az_p142 C Q (23, lv, st, h) ↔ az_ma (lv 0) (fun x => az_p142 C Q (24, lv, x :: st, h)) := az_wp_iff.trans az_go_lda
theorem az_s142_24 {a : Nat} : az_p142 C Q (24, lv, .ref a :: st, h) ↔ az_mf (h.1 a) 11 11 (fun v => az_p142 C Q (27, lv, v :: st, h)) := az_wp_iff.trans az_go_gf
theorem az_s142_27 : az_p142 C Q (27, lv, st, h) ↔ az_mi (lv 1) (fun x => az_p142 C Q (28, lv, .int x :: st, h)) := az_wp_iff.trans az_go_ldi
theorem az_s142_28 {a : Nat} {i : Int32} : az_p142 C Q (28, lv, .int i :: .ref a :: st, h) ↔ az_mr (h.1 a) 0 i.toInt (fun x => az_p142 C Q (29, lv, .int x :: st, h)) := az_wp_iff.trans az_go_ial
theorem az_s142_29 : az_p142 C Q (29, lv, st, h) ↔ az_ma (lv 0) (fun x => az_p142 C Q (30, lv, x :: st, h)) := az_wp_iff.trans az_go_lda
theorem az_s142_30 : az_p142 C Q (30, lv, st, h) ↔ az_mi (lv 1) (fun x => az_p142 C Q (31, lv, .int x :: st, h)) := az_wp_iff.trans az_go_ldi
theorem az_s142_31 {a : Nat} {v1 : Value} : az_p142 C Q (31, lv, v1 :: .ref a :: st, h) ↔ az_isob (h.1 a) 11 = true ∧ az_cat st ≤ 8 ∧ az_mc C 140 [.ref a, v1] h (fun v h' => az_p142 C Q (34, lv, v ++ st, h')) := az_wp_iff.trans (az_go_if.trans (and_congr Iff.rfl az_go_call))
theorem az_s142_34 {x y : Int32} : az_p142 C Q (34, lv, .int y :: .int x :: st, h) ↔ (¬ x = y → az_p142 C Q (39, lv, st, h)) ∧ (¬ ¬ x = y → az_p142 C Q (37, lv, st, h)) := az_wp_iff.trans (az_go_if2 az_d_eq)
theorem az_s142_37 : az_p142 C Q (37, lv, st, h) ↔ az_p142 C Q (38, lv, .int (Int32.ofInt (-1)) :: st, h) := az_wp_iff
theorem az_s142_38 {x : Int32} : az_p142 C Q (38, lv, [.int x], h) ↔ Q (some (.int x)) h := az_wp_iff
theorem az_s142_39 : az_p142 C Q (39, lv, st, h) ↔ az_ma (lv 0) (fun x => az_p142 C Q (40, lv, x :: st, h)) := az_wp_iff.trans az_go_lda
theorem az_s142_40 {a : Nat} : az_p142 C Q (40, lv, .ref a :: st, h) ↔ az_mf (h.1 a) 11 12 (fun v => az_p142 C Q (43, lv, v :: st, h)) := az_wp_iff.trans az_go_gf
theorem az_s142_43 : az_p142 C Q (43, lv, st, h) ↔ az_p142 C Q (44, lv, .int (Int32.ofInt (2)) :: st, h) := az_wp_iff
theorem az_s142_44 : az_p142 C Q (44, lv, st, h) ↔ az_mi (lv 1) (fun x => az_p142 C Q (45, lv, .int x :: st, h)) := az_wp_iff.trans az_go_ldi
theorem az_s142_45 {x y : Int32} : az_p142 C Q (45, lv, .int y :: .int x :: st, h) ↔ az_p142 C Q (46, lv, .int (x * y) :: st, h) := az_wp_iff
theorem az_s142_46 : az_p142 C Q (46, lv, st, h) ↔ az_ma (lv 0) (fun x => az_p142 C Q (47, lv, x :: st, h)) := az_wp_iff.trans az_go_lda
theorem az_s142_47 {a : Nat} : az_p142 C Q (47, lv, .ref a :: st, h) ↔ az_mf (h.1 a) 11 11 (fun v => az_p142 C Q (50, lv, v :: st, h)) := az_wp_iff.trans az_go_gf
theorem az_s142_50 : az_p142 C Q (50, lv, st, h) ↔ az_mi (lv 1) (fun x => az_p142 C Q (51, lv, .int x :: st, h)) := az_wp_iff.trans az_go_ldi
theorem az_s142_51 {a : Nat} {i : Int32} : az_p142 C Q (51, lv, .int i :: .ref a :: st, h) ↔ az_mr (h.1 a) 0 i.toInt (fun x => az_p142 C Q (52, lv, .int x :: st, h)) := az_wp_iff.trans az_go_ial
theorem az_s142_52 {x y : Int32} : az_p142 C Q (52, lv, .int y :: .int x :: st, h) ↔ az_p142 C Q (53, lv, .int (x + y) :: st, h) := az_wp_iff
theorem az_s142_53 : az_p142 C Q (53, lv, st, h) ↔ az_mi (lv 2) (fun x => az_p142 C Q (54, lv, .int x :: st, h)) := az_wp_iff.trans az_go_ldi
theorem az_s142_54 {a : Nat} {i x : Int32} : az_p142 C Q (54, lv, .int x :: .int i :: .ref a :: st, h) ↔ az_mw' (h.1 a) i.toInt x (fun c => az_p142 C Q (55, lv, st, az_uh h a c)) := az_wp_iff.trans az_go_ias
theorem az_s142_55 : az_p142 C Q (55, lv, st, h) ↔ az_ma (lv 0) (fun x => az_p142 C Q (56, lv, x :: st, h)) := az_wp_iff.trans az_go_lda
theorem az_s142_56 {a : Nat} : az_p142 C Q (56, lv, .ref a :: st, h) ↔ az_mf (h.1 a) 11 11 (fun v => az_p142 C Q (59, lv, v :: st, h)) := az_wp_iff.trans az_go_gf
theorem az_s142_59 : az_p142 C Q (59, lv, st, h) ↔ az_mi (lv 1) (fun x => az_p142 C Q (60, lv, .int x :: st, h)) := az_wp_iff.trans az_go_ldi
theorem az_s142_60 {x : Int32} {y : Nat} : az_p142 C Q (60, lv, .int x :: .ref y :: st, h) ↔ az_p142 C Q (61, lv, .int x :: .ref y :: .int x :: .ref y :: st, h) := az_wp_iff
theorem az_s142_60l {x : Int64} : az_p142 C Q (60, lv, .long x :: st, h) ↔ az_p142 C Q (61, lv, .long x :: .long x :: st, h) := az_wp_iff
theorem az_s142_61 {a : Nat} {i : Int32} : az_p142 C Q (61, lv, .int i :: .ref a :: st, h) ↔ az_mr (h.1 a) 0 i.toInt (fun x => az_p142 C Q (62, lv, .int x :: st, h)) := az_wp_iff.trans az_go_ial
theorem az_s142_62 : az_p142 C Q (62, lv, st, h) ↔ az_p142 C Q (63, lv, .int (Int32.ofInt (1)) :: st, h) := az_wp_iff
theorem az_s142_63 {x y : Int32} : az_p142 C Q (63, lv, .int y :: .int x :: st, h) ↔ az_p142 C Q (64, lv, .int (x + y) :: st, h) := az_wp_iff
theorem az_s142_64 {a : Nat} {i x : Int32} : az_p142 C Q (64, lv, .int x :: .int i :: .ref a :: st, h) ↔ az_mw' (h.1 a) i.toInt x (fun c => az_p142 C Q (65, lv, st, az_uh h a c)) := az_wp_iff.trans az_go_ias
theorem az_s142_65 : az_p142 C Q (65, lv, st, h) ↔ az_ma (lv 0) (fun x => az_p142 C Q (66, lv, x :: st, h)) := az_wp_iff.trans az_go_lda
theorem az_s142_66 {a : Nat} : az_p142 C Q (66, lv, .ref a :: st, h) ↔ az_mf (h.1 a) 11 11 (fun v => az_p142 C Q (69, lv, v :: st, h)) := az_wp_iff.trans az_go_gf
theorem az_s142_69 : az_p142 C Q (69, lv, st, h) ↔ az_mi (lv 1) (fun x => az_p142 C Q (70, lv, .int x :: st, h)) := az_wp_iff.trans az_go_ldi
theorem az_s142_70 {a : Nat} {i : Int32} : az_p142 C Q (70, lv, .int i :: .ref a :: st, h) ↔ az_mr (h.1 a) 0 i.toInt (fun x => az_p142 C Q (71, lv, .int x :: st, h)) := az_wp_iff.trans az_go_ial
theorem az_s142_71 {x : Int32} : az_p142 C Q (71, lv, [.int x], h) ↔ Q (some (.int x)) h := az_wp_iff
def az_p143 (C : az_Cl) (Q : Option Value → az_H → Prop) : az_S → Prop := az_wp C (fun _ => none) (some .int) (az_fn az_k143) Q
theorem az_s143_0 : az_p143 C Q (0, lv, st, h) ↔ az_ma (lv 0) (fun x => az_p143 C Q (1, lv, x :: st, h)) := az_wp_iff.trans az_go_lda
theorem az_s143_1 {a : Nat} : az_p143 C Q (1, lv, .ref a :: st, h) ↔ az_mf (h.1 a) 11 0 (fun v => az_p143 C Q (4, lv, v :: st, h)) := az_wp_iff.trans az_go_gf
theorem az_s143_4 {x : Int32} : az_p143 C Q (4, lv, .int x :: st, h) ↔ (¬ x = 0 → az_p143 C Q (59, lv, st, h)) ∧ (¬ ¬ x = 0 → az_p143 C Q (7, lv, st, h)) := az_wp_iff.trans (az_go_if1 az_d_eq)
theorem az_s143_7 : az_p143 C Q (7, lv, st, h) ↔ az_ma (lv 0) (fun x => az_p143 C Q (8, lv, x :: st, h)) := az_wp_iff.trans az_go_lda
theorem az_s143_8 : az_p143 C Q (8, lv, st, h) ↔ az_mi (lv 1) (fun x => az_p143 C Q (9, lv, .int x :: st, h)) := az_wp_iff.trans az_go_ldi
theorem az_s143_9 {a : Nat} {v1 : Value} : az_p143 C Q (9, lv, v1 :: .ref a :: st, h) ↔ az_isob (h.1 a) 11 = true ∧ az_cat st ≤ 8 ∧ az_mc C 136 [.ref a, v1] h (fun v h' => az_p143 C Q (12, lv, v ++ st, h')) := az_wp_iff.trans (az_go_if.trans (and_congr Iff.rfl az_go_call))
theorem az_s143_12 {x : Int32} : az_p143 C Q (12, lv, .int x :: st, h) ↔ (x = 0 → az_p143 C Q (59, lv, st, h)) ∧ (¬ x = 0 → az_p143 C Q (15, lv, st, h)) := az_wp_iff.trans (az_go_if1 az_d_eq)
theorem az_s143_15 : az_p143 C Q (15, lv, st, h) ↔ az_ma (lv 0) (fun x => az_p143 C Q (16, lv, x :: st, h)) := az_wp_iff.trans az_go_lda
theorem az_s143_16 : az_p143 C Q (16, lv, st, h) ↔ az_mi (lv 2) (fun x => az_p143 C Q (17, lv, .int x :: st, h)) := az_wp_iff.trans az_go_ldi
theorem az_s143_17 {a : Nat} {v1 : Value} : az_p143 C Q (17, lv, v1 :: .ref a :: st, h) ↔ az_isob (h.1 a) 11 = true ∧ az_cat st ≤ 8 ∧ az_mc C 135 [.ref a, v1] h (fun v h' => az_p143 C Q (20, lv, v ++ st, h')) := az_wp_iff.trans (az_go_if.trans (and_congr Iff.rfl az_go_call))
theorem az_s143_20 {x : Int32} : az_p143 C Q (20, lv, .int x :: st, h) ↔ (x = 0 → az_p143 C Q (59, lv, st, h)) ∧ (¬ x = 0 → az_p143 C Q (23, lv, st, h)) := az_wp_iff.trans (az_go_if1 az_d_eq)
theorem az_s143_23 : az_p143 C Q (23, lv, st, h) ↔ az_ma (lv 0) (fun x => az_p143 C Q (24, lv, x :: st, h)) := az_wp_iff.trans az_go_lda
theorem az_s143_24 {a : Nat} : az_p143 C Q (24, lv, .ref a :: st, h) ↔ az_mf (h.1 a) 11 13 (fun v => az_p143 C Q (27, lv, v :: st, h)) := az_wp_iff.trans az_go_gf
theorem az_s143_27 : az_p143 C Q (27, lv, st, h) ↔ az_mi (lv 1) (fun x => az_p143 C Q (28, lv, .int x :: st, h)) := az_wp_iff.trans az_go_ldi
theorem az_s143_28 {a : Nat} {i : Int32} : az_p143 C Q (28, lv, .int i :: .ref a :: st, h) ↔ az_mr (h.1 a) 0 i.toInt (fun x => az_p143 C Q (29, lv, .int x :: st, h)) := az_wp_iff.trans az_go_ial
theorem az_s143_29 : az_p143 C Q (29, lv, st, h) ↔ az_ma (lv 0) (fun x => az_p143 C Q (30, lv, x :: st, h)) := az_wp_iff.trans az_go_lda
theorem az_s143_30 : az_p143 C Q (30, lv, st, h) ↔ az_mi (lv 1) (fun x => az_p143 C Q (31, lv, .int x :: st, h)) := az_wp_iff.trans az_go_ldi
theorem az_s143_31 : az_p143 C Q (31, lv, st, h) ↔ az_p143 C Q (32, lv, .int (Int32.ofInt (0)) :: st, h) := az_wp_iff
theorem az_s143_32 {a : Nat} {v1 v2 : Value} : az_p143 C Q (32, lv, v2 :: v1 :: .ref a :: st, h) ↔ az_isob (h.1 a) 11 = true ∧ az_cat st ≤ 8 ∧ az_mc C 141 [.ref a, v1, v2] h (fun v h' => az_p143 C Q (35, lv, v ++ st, h')) := az_wp_iff.trans (az_go_if.trans (and_congr Iff.rfl az_go_call))
theorem az_s143_35 {x y : Int32} : az_p143 C Q (35, lv, .int y :: .int x :: st, h) ↔ (x = y → az_p143 C Q (59, lv, st, h)) ∧ (¬ x = y → az_p143 C Q (38, lv, st, h)) := az_wp_iff.trans (az_go_if2 az_d_eq)
theorem az_s143_38 : az_p143 C Q (38, lv, st, h) ↔ az_ma (lv 0) (fun x => az_p143 C Q (39, lv, x :: st, h)) := az_wp_iff.trans az_go_lda
theorem az_s143_39 {a : Nat} : az_p143 C Q (39, lv, .ref a :: st, h) ↔ az_mf (h.1 a) 11 8 (fun v => az_p143 C Q (42, lv, v :: st, h)) := az_wp_iff.trans az_go_gf
theorem az_s143_42 : az_p143 C Q (42, lv, st, h) ↔ az_mi (lv 1) (fun x => az_p143 C Q (43, lv, .int x :: st, h)) := az_wp_iff.trans az_go_ldi
theorem az_s143_43 {a : Nat} {i : Int32} : az_p143 C Q (43, lv, .int i :: .ref a :: st, h) ↔ az_mr (h.1 a) 0 i.toInt (fun x => az_p143 C Q (44, lv, .int x :: st, h)) := az_wp_iff.trans az_go_ial
theorem az_s143_44 : az_p143 C Q (44, lv, st, h) ↔ az_p143 C Q (45, lv, .int (Int32.ofInt (2)) :: st, h) := az_wp_iff
theorem az_s143_45 {x y : Int32} : az_p143 C Q (45, lv, .int y :: .int x :: st, h) ↔ (¬ x = y → az_p143 C Q (61, lv, st, h)) ∧ (¬ ¬ x = y → az_p143 C Q (48, lv, st, h)) := az_wp_iff.trans (az_go_if2 az_d_eq)
theorem az_s143_48 : az_p143 C Q (48, lv, st, h) ↔ az_mi (lv 3) (fun x => az_p143 C Q (49, lv, .int x :: st, h)) := az_wp_iff.trans az_go_ldi
theorem az_s143_49 : az_p143 C Q (49, lv, st, h) ↔ az_p143 C Q (50, lv, .int (Int32.ofInt (1)) :: st, h) := az_wp_iff
theorem az_s143_50 : az_p143 C Q (50, lv, st, h) ↔ az_p143 C Q (53, lv, .int (Int32.ofInt (999)) :: st, h) := az_wp_iff
theorem az_s143_53 {v1 v2 v3 : Value} : az_p143 C Q (53, lv, v3 :: v2 :: v1 :: st, h) ↔ az_cat st ≤ 8 ∧ az_mc C 134 [v1, v2, v3] h (fun v h' => az_p143 C Q (56, lv, v ++ st, h')) := az_wp_iff.trans az_go_call
theorem az_s143_56 {x : Int32} : az_p143 C Q (56, lv, .int x :: st, h) ↔ (¬ x = 0 → az_p143 C Q (61, lv, st, h)) ∧ (¬ ¬ x = 0 → az_p143 C Q (59, lv, st, h)) := az_wp_iff.trans (az_go_if1 az_d_eq)
theorem az_s143_59 : az_p143 C Q (59, lv, st, h) ↔ az_p143 C Q (60, lv, .int (Int32.ofInt (-1)) :: st, h) := az_wp_iff
theorem az_s143_60 {x : Int32} : az_p143 C Q (60, lv, [.int x], h) ↔ Q (some (.int x)) h := az_wp_iff
theorem az_s143_61 : az_p143 C Q (61, lv, st, h) ↔ az_ma (lv 0) (fun x => az_p143 C Q (62, lv, x :: st, h)) := az_wp_iff.trans az_go_lda
theorem az_s143_62 {a : Nat} : az_p143 C Q (62, lv, .ref a :: st, h) ↔ az_mf (h.1 a) 11 14 (fun v => az_p143 C Q (65, lv, v :: st, h)) := az_wp_iff.trans az_go_gf
theorem az_s143_65 : az_p143 C Q (65, lv, st, h) ↔ az_p143 C Q (66, lv, .int (Int32.ofInt (3)) :: st, h) := az_wp_iff
theorem az_s143_66 : az_p143 C Q (66, lv, st, h) ↔ az_mi (lv 1) (fun x => az_p143 C Q (67, lv, .int x :: st, h)) := az_wp_iff.trans az_go_ldi
theorem az_s143_67 {x y : Int32} : az_p143 C Q (67, lv, .int y :: .int x :: st, h) ↔ az_p143 C Q (68, lv, .int (x * y) :: st, h) := az_wp_iff
theorem az_s143_68 : az_p143 C Q (68, lv, st, h) ↔ az_ma (lv 0) (fun x => az_p143 C Q (69, lv, x :: st, h)) := az_wp_iff.trans az_go_lda
theorem az_s143_69 {a : Nat} : az_p143 C Q (69, lv, .ref a :: st, h) ↔ az_mf (h.1 a) 11 13 (fun v => az_p143 C Q (72, lv, v :: st, h)) := az_wp_iff.trans az_go_gf
theorem az_s143_72 : az_p143 C Q (72, lv, st, h) ↔ az_mi (lv 1) (fun x => az_p143 C Q (73, lv, .int x :: st, h)) := az_wp_iff.trans az_go_ldi
theorem az_s143_73 {a : Nat} {i : Int32} : az_p143 C Q (73, lv, .int i :: .ref a :: st, h) ↔ az_mr (h.1 a) 0 i.toInt (fun x => az_p143 C Q (74, lv, .int x :: st, h)) := az_wp_iff.trans az_go_ial
theorem az_s143_74 {x y : Int32} : az_p143 C Q (74, lv, .int y :: .int x :: st, h) ↔ az_p143 C Q (75, lv, .int (x + y) :: st, h) := az_wp_iff
theorem az_s143_75 : az_p143 C Q (75, lv, st, h) ↔ az_mi (lv 2) (fun x => az_p143 C Q (76, lv, .int x :: st, h)) := az_wp_iff.trans az_go_ldi
theorem az_s143_76 {a : Nat} {i x : Int32} : az_p143 C Q (76, lv, .int x :: .int i :: .ref a :: st, h) ↔ az_mw' (h.1 a) i.toInt x (fun c => az_p143 C Q (77, lv, st, az_uh h a c)) := az_wp_iff.trans az_go_ias
theorem az_s143_77 : az_p143 C Q (77, lv, st, h) ↔ az_ma (lv 0) (fun x => az_p143 C Q (78, lv, x :: st, h)) := az_wp_iff.trans az_go_lda
theorem az_s143_78 {a : Nat} : az_p143 C Q (78, lv, .ref a :: st, h) ↔ az_mf (h.1 a) 11 15 (fun v => az_p143 C Q (81, lv, v :: st, h)) := az_wp_iff.trans az_go_gf
theorem az_s143_81 : az_p143 C Q (81, lv, st, h) ↔ az_p143 C Q (82, lv, .int (Int32.ofInt (3)) :: st, h) := az_wp_iff
theorem az_s143_82 : az_p143 C Q (82, lv, st, h) ↔ az_mi (lv 1) (fun x => az_p143 C Q (83, lv, .int x :: st, h)) := az_wp_iff.trans az_go_ldi
theorem az_s143_83 {x y : Int32} : az_p143 C Q (83, lv, .int y :: .int x :: st, h) ↔ az_p143 C Q (84, lv, .int (x * y) :: st, h) := az_wp_iff
theorem az_s143_84 : az_p143 C Q (84, lv, st, h) ↔ az_ma (lv 0) (fun x => az_p143 C Q (85, lv, x :: st, h)) := az_wp_iff.trans az_go_lda
theorem az_s143_85 {a : Nat} : az_p143 C Q (85, lv, .ref a :: st, h) ↔ az_mf (h.1 a) 11 13 (fun v => az_p143 C Q (88, lv, v :: st, h)) := az_wp_iff.trans az_go_gf
theorem az_s143_88 : az_p143 C Q (88, lv, st, h) ↔ az_mi (lv 1) (fun x => az_p143 C Q (89, lv, .int x :: st, h)) := az_wp_iff.trans az_go_ldi
theorem az_s143_89 {a : Nat} {i : Int32} : az_p143 C Q (89, lv, .int i :: .ref a :: st, h) ↔ az_mr (h.1 a) 0 i.toInt (fun x => az_p143 C Q (90, lv, .int x :: st, h)) := az_wp_iff.trans az_go_ial
theorem az_s143_90 {x y : Int32} : az_p143 C Q (90, lv, .int y :: .int x :: st, h) ↔ az_p143 C Q (91, lv, .int (x + y) :: st, h) := az_wp_iff
theorem az_s143_91 : az_p143 C Q (91, lv, st, h) ↔ az_mi (lv 3) (fun x => az_p143 C Q (92, lv, .int x :: st, h)) := az_wp_iff.trans az_go_ldi
theorem az_s143_92 {a : Nat} {i x : Int32} : az_p143 C Q (92, lv, .int x :: .int i :: .ref a :: st, h) ↔ az_mw' (h.1 a) i.toInt x (fun c => az_p143 C Q (93, lv, st, az_uh h a c)) := az_wp_iff.trans az_go_ias
theorem az_s143_93 : az_p143 C Q (93, lv, st, h) ↔ az_ma (lv 0) (fun x => az_p143 C Q (94, lv, x :: st, h)) := az_wp_iff.trans az_go_lda
theorem az_s143_94 {a : Nat} : az_p143 C Q (94, lv, .ref a :: st, h) ↔ az_mf (h.1 a) 11 13 (fun v => az_p143 C Q (97, lv, v :: st, h)) := az_wp_iff.trans az_go_gf
theorem az_s143_97 : az_p143 C Q (97, lv, st, h) ↔ az_mi (lv 1) (fun x => az_p143 C Q (98, lv, .int x :: st, h)) := az_wp_iff.trans az_go_ldi
theorem az_s143_98 {x : Int32} {y : Nat} : az_p143 C Q (98, lv, .int x :: .ref y :: st, h) ↔ az_p143 C Q (99, lv, .int x :: .ref y :: .int x :: .ref y :: st, h) := az_wp_iff
theorem az_s143_98l {x : Int64} : az_p143 C Q (98, lv, .long x :: st, h) ↔ az_p143 C Q (99, lv, .long x :: .long x :: st, h) := az_wp_iff
theorem az_s143_99 {a : Nat} {i : Int32} : az_p143 C Q (99, lv, .int i :: .ref a :: st, h) ↔ az_mr (h.1 a) 0 i.toInt (fun x => az_p143 C Q (100, lv, .int x :: st, h)) := az_wp_iff.trans az_go_ial
theorem az_s143_100 : az_p143 C Q (100, lv, st, h) ↔ az_p143 C Q (101, lv, .int (Int32.ofInt (1)) :: st, h) := az_wp_iff
theorem az_s143_101 {x y : Int32} : az_p143 C Q (101, lv, .int y :: .int x :: st, h) ↔ az_p143 C Q (102, lv, .int (x + y) :: st, h) := az_wp_iff
theorem az_s143_102 {a : Nat} {i x : Int32} : az_p143 C Q (102, lv, .int x :: .int i :: .ref a :: st, h) ↔ az_mw' (h.1 a) i.toInt x (fun c => az_p143 C Q (103, lv, st, az_uh h a c)) := az_wp_iff.trans az_go_ias
theorem az_s143_103 : az_p143 C Q (103, lv, st, h) ↔ az_ma (lv 0) (fun x => az_p143 C Q (104, lv, x :: st, h)) := az_wp_iff.trans az_go_lda
theorem az_s143_104 {a : Nat} : az_p143 C Q (104, lv, .ref a :: st, h) ↔ az_mf (h.1 a) 11 13 (fun v => az_p143 C Q (107, lv, v :: st, h)) := az_wp_iff.trans az_go_gf
theorem az_s143_107 : az_p143 C Q (107, lv, st, h) ↔ az_mi (lv 1) (fun x => az_p143 C Q (108, lv, .int x :: st, h)) := az_wp_iff.trans az_go_ldi
theorem az_s143_108 {a : Nat} {i : Int32} : az_p143 C Q (108, lv, .int i :: .ref a :: st, h) ↔ az_mr (h.1 a) 0 i.toInt (fun x => az_p143 C Q (109, lv, .int x :: st, h)) := az_wp_iff.trans az_go_ial
theorem az_s143_109 {x : Int32} : az_p143 C Q (109, lv, [.int x], h) ↔ Q (some (.int x)) h := az_wp_iff
def az_p144 (C : az_Cl) (Q : Option Value → az_H → Prop) : az_S → Prop := az_wp C (fun _ => none) (some .boolean) (az_fn az_k144) Q
theorem az_s144_0 : az_p144 C Q (0, lv, st, h) ↔ az_p144 C Q (1, lv, .int (Int32.ofInt (0)) :: st, h) := az_wp_iff
theorem az_s144_1 {x : Int32} : az_p144 C Q (1, lv, .int x :: st, h) ↔ az_p144 C Q (2, (az_s1 lv 3 (.int x)), st, h) := az_wp_iff
theorem az_s144_2 : az_p144 C Q (2, lv, st, h) ↔ az_mi (lv 3) (fun x => az_p144 C Q (3, lv, .int x :: st, h)) := az_wp_iff.trans az_go_ldi
theorem az_s144_3 : az_p144 C Q (3, lv, st, h) ↔ az_ma (lv 0) (fun x => az_p144 C Q (4, lv, x :: st, h)) := az_wp_iff.trans az_go_lda
theorem az_s144_4 {a : Nat} : az_p144 C Q (4, lv, .ref a :: st, h) ↔ az_mf (h.1 a) 11 11 (fun v => az_p144 C Q (7, lv, v :: st, h)) := az_wp_iff.trans az_go_gf
theorem az_s144_7 : az_p144 C Q (7, lv, st, h) ↔ az_mi (lv 1) (fun x => az_p144 C Q (8, lv, .int x :: st, h)) := az_wp_iff.trans az_go_ldi
theorem az_s144_8 {a : Nat} {i : Int32} : az_p144 C Q (8, lv, .int i :: .ref a :: st, h) ↔ az_mr (h.1 a) 0 i.toInt (fun x => az_p144 C Q (9, lv, .int x :: st, h)) := az_wp_iff.trans az_go_ial
theorem az_s144_9 {x y : Int32} : az_p144 C Q (9, lv, .int y :: .int x :: st, h) ↔ (y ≤ x → az_p144 C Q (34, lv, st, h)) ∧ (¬ y ≤ x → az_p144 C Q (12, lv, st, h)) := az_wp_iff.trans (az_go_if2 az_d_eq)
theorem az_s144_12 : az_p144 C Q (12, lv, st, h) ↔ az_ma (lv 0) (fun x => az_p144 C Q (13, lv, x :: st, h)) := az_wp_iff.trans az_go_lda
theorem az_s144_13 {a : Nat} : az_p144 C Q (13, lv, .ref a :: st, h) ↔ az_mf (h.1 a) 11 12 (fun v => az_p144 C Q (16, lv, v :: st, h)) := az_wp_iff.trans az_go_gf
theorem az_s144_16 : az_p144 C Q (16, lv, st, h) ↔ az_p144 C Q (17, lv, .int (Int32.ofInt (2)) :: st, h) := az_wp_iff
theorem az_s144_17 : az_p144 C Q (17, lv, st, h) ↔ az_mi (lv 1) (fun x => az_p144 C Q (18, lv, .int x :: st, h)) := az_wp_iff.trans az_go_ldi
theorem az_s144_18 {x y : Int32} : az_p144 C Q (18, lv, .int y :: .int x :: st, h) ↔ az_p144 C Q (19, lv, .int (x * y) :: st, h) := az_wp_iff
theorem az_s144_19 : az_p144 C Q (19, lv, st, h) ↔ az_mi (lv 3) (fun x => az_p144 C Q (20, lv, .int x :: st, h)) := az_wp_iff.trans az_go_ldi
theorem az_s144_20 {x y : Int32} : az_p144 C Q (20, lv, .int y :: .int x :: st, h) ↔ az_p144 C Q (21, lv, .int (x + y) :: st, h) := az_wp_iff
theorem az_s144_21 {a : Nat} {i : Int32} : az_p144 C Q (21, lv, .int i :: .ref a :: st, h) ↔ az_mr (h.1 a) 0 i.toInt (fun x => az_p144 C Q (22, lv, .int x :: st, h)) := az_wp_iff.trans az_go_ial
theorem az_s144_22 : az_p144 C Q (22, lv, st, h) ↔ az_mi (lv 2) (fun x => az_p144 C Q (23, lv, .int x :: st, h)) := az_wp_iff.trans az_go_ldi
theorem az_s144_23 {x y : Int32} : az_p144 C Q (23, lv, .int y :: .int x :: st, h) ↔ (¬ x = y → az_p144 C Q (28, lv, st, h)) ∧ (¬ ¬ x = y → az_p144 C Q (26, lv, st, h)) := az_wp_iff.trans (az_go_if2 az_d_eq)
theorem az_s144_26 : az_p144 C Q (26, lv, st, h) ↔ az_p144 C Q (27, lv, .int (Int32.ofInt (1)) :: st, h) := az_wp_iff
theorem az_s144_27 {x : Int32} : az_p144 C Q (27, lv, [.int x], h) ↔ (x = 0 ∨ x = 1) ∧ Q (some (.int x)) h := az_wp_iff.trans az_go_if
theorem az_s144_28 : az_p144 C Q (28, lv, st, h) ↔ az_mi (lv 3) (fun x => az_p144 C Q (31, (az_s1 lv 3 (.int (x + Int32.ofInt (1)))), st, h)) := az_wp_iff.trans az_go_inc
theorem az_s144_31 : az_p144 C Q (31, lv, st, h) ↔ az_p144 C Q (2, lv, st, h) := az_wp_iff
theorem az_s144_34 : az_p144 C Q (34, lv, st, h) ↔ az_p144 C Q (35, lv, .int (Int32.ofInt (0)) :: st, h) := az_wp_iff
theorem az_s144_35 {x : Int32} : az_p144 C Q (35, lv, [.int x], h) ↔ (x = 0 ∨ x = 1) ∧ Q (some (.int x)) h := az_wp_iff.trans az_go_if
def az_p145 (C : az_Cl) (Q : Option Value → az_H → Prop) : az_S → Prop := az_wp C (fun _ => none) (some .int) (az_fn az_k145) Q
theorem az_s145_0 : az_p145 C Q (0, lv, st, h) ↔ az_ma (lv 0) (fun x => az_p145 C Q (1, lv, x :: st, h)) := az_wp_iff.trans az_go_lda
theorem az_s145_1 {a : Nat} : az_p145 C Q (1, lv, .ref a :: st, h) ↔ az_mf (h.1 a) 11 11 (fun v => az_p145 C Q (4, lv, v :: st, h)) := az_wp_iff.trans az_go_gf
theorem az_s145_4 : az_p145 C Q (4, lv, st, h) ↔ az_mi (lv 1) (fun x => az_p145 C Q (5, lv, .int x :: st, h)) := az_wp_iff.trans az_go_ldi
theorem az_s145_5 {a : Nat} {i : Int32} : az_p145 C Q (5, lv, .int i :: .ref a :: st, h) ↔ az_mr (h.1 a) 0 i.toInt (fun x => az_p145 C Q (6, lv, .int x :: st, h)) := az_wp_iff.trans az_go_ial
theorem az_s145_6 : az_p145 C Q (6, lv, st, h) ↔ az_ma (lv 0) (fun x => az_p145 C Q (7, lv, x :: st, h)) := az_wp_iff.trans az_go_lda
theorem az_s145_7 : az_p145 C Q (7, lv, st, h) ↔ az_mi (lv 1) (fun x => az_p145 C Q (8, lv, .int x :: st, h)) := az_wp_iff.trans az_go_ldi
theorem az_s145_8 {a : Nat} {v1 : Value} : az_p145 C Q (8, lv, v1 :: .ref a :: st, h) ↔ az_isob (h.1 a) 11 = true ∧ az_cat st ≤ 8 ∧ az_mc C 140 [.ref a, v1] h (fun v h' => az_p145 C Q (11, lv, v ++ st, h')) := az_wp_iff.trans (az_go_if.trans (and_congr Iff.rfl az_go_call))
theorem az_s145_11 {x y : Int32} : az_p145 C Q (11, lv, .int y :: .int x :: st, h) ↔ (y ≤ x → az_p145 C Q (16, lv, st, h)) ∧ (¬ y ≤ x → az_p145 C Q (14, lv, st, h)) := az_wp_iff.trans (az_go_if2 az_d_eq)
theorem az_s145_14 : az_p145 C Q (14, lv, st, h) ↔ az_p145 C Q (15, lv, .int (Int32.ofInt (1)) :: st, h) := az_wp_iff
theorem az_s145_15 {x : Int32} : az_p145 C Q (15, lv, [.int x], h) ↔ Q (some (.int x)) h := az_wp_iff
theorem az_s145_16 : az_p145 C Q (16, lv, st, h) ↔ az_ma (lv 0) (fun x => az_p145 C Q (17, lv, x :: st, h)) := az_wp_iff.trans az_go_lda
theorem az_s145_17 {a : Nat} : az_p145 C Q (17, lv, .ref a :: st, h) ↔ az_mf (h.1 a) 11 13 (fun v => az_p145 C Q (20, lv, v :: st, h)) := az_wp_iff.trans az_go_gf
theorem az_s145_20 : az_p145 C Q (20, lv, st, h) ↔ az_mi (lv 1) (fun x => az_p145 C Q (21, lv, .int x :: st, h)) := az_wp_iff.trans az_go_ldi
theorem az_s145_21 {a : Nat} {i : Int32} : az_p145 C Q (21, lv, .int i :: .ref a :: st, h) ↔ az_mr (h.1 a) 0 i.toInt (fun x => az_p145 C Q (22, lv, .int x :: st, h)) := az_wp_iff.trans az_go_ial
theorem az_s145_22 : az_p145 C Q (22, lv, st, h) ↔ az_ma (lv 0) (fun x => az_p145 C Q (23, lv, x :: st, h)) := az_wp_iff.trans az_go_lda
theorem az_s145_23 : az_p145 C Q (23, lv, st, h) ↔ az_mi (lv 1) (fun x => az_p145 C Q (24, lv, .int x :: st, h)) := az_wp_iff.trans az_go_ldi
theorem az_s145_24 : az_p145 C Q (24, lv, st, h) ↔ az_p145 C Q (25, lv, .int (Int32.ofInt (1)) :: st, h) := az_wp_iff
theorem az_s145_25 {a : Nat} {v1 v2 : Value} : az_p145 C Q (25, lv, v2 :: v1 :: .ref a :: st, h) ↔ az_isob (h.1 a) 11 = true ∧ az_cat st ≤ 8 ∧ az_mc C 141 [.ref a, v1, v2] h (fun v h' => az_p145 C Q (28, lv, v ++ st, h')) := az_wp_iff.trans (az_go_if.trans (and_congr Iff.rfl az_go_call))
theorem az_s145_28 {x y : Int32} : az_p145 C Q (28, lv, .int y :: .int x :: st, h) ↔ (y ≤ x → az_p145 C Q (33, lv, st, h)) ∧ (¬ y ≤ x → az_p145 C Q (31, lv, st, h)) := az_wp_iff.trans (az_go_if2 az_d_eq)
theorem az_s145_31 : az_p145 C Q (31, lv, st, h) ↔ az_p145 C Q (32, lv, .int (Int32.ofInt (2)) :: st, h) := az_wp_iff
theorem az_s145_32 {x : Int32} : az_p145 C Q (32, lv, [.int x], h) ↔ Q (some (.int x)) h := az_wp_iff
theorem az_s145_33 : az_p145 C Q (33, lv, st, h) ↔ az_p145 C Q (34, lv, .int (Int32.ofInt (0)) :: st, h) := az_wp_iff
theorem az_s145_34 {x : Int32} : az_p145 C Q (34, lv, .int x :: st, h) ↔ az_p145 C Q (35, (az_s1 lv 2 (.int x)), st, h) := az_wp_iff
theorem az_s145_35 : az_p145 C Q (35, lv, st, h) ↔ az_p145 C Q (36, lv, .int (Int32.ofInt (0)) :: st, h) := az_wp_iff
theorem az_s145_36 {x : Int32} : az_p145 C Q (36, lv, .int x :: st, h) ↔ az_p145 C Q (37, (az_s1 lv 3 (.int x)), st, h) := az_wp_iff
theorem az_s145_37 : az_p145 C Q (37, lv, st, h) ↔ az_mi (lv 3) (fun x => az_p145 C Q (38, lv, .int x :: st, h)) := az_wp_iff.trans az_go_ldi
theorem az_s145_38 : az_p145 C Q (38, lv, st, h) ↔ az_ma (lv 0) (fun x => az_p145 C Q (39, lv, x :: st, h)) := az_wp_iff.trans az_go_lda
theorem az_s145_39 {a : Nat} : az_p145 C Q (39, lv, .ref a :: st, h) ↔ az_mf (h.1 a) 11 13 (fun v => az_p145 C Q (42, lv, v :: st, h)) := az_wp_iff.trans az_go_gf
theorem az_s145_42 : az_p145 C Q (42, lv, st, h) ↔ az_mi (lv 1) (fun x => az_p145 C Q (43, lv, .int x :: st, h)) := az_wp_iff.trans az_go_ldi
theorem az_s145_43 {a : Nat} {i : Int32} : az_p145 C Q (43, lv, .int i :: .ref a :: st, h) ↔ az_mr (h.1 a) 0 i.toInt (fun x => az_p145 C Q (44, lv, .int x :: st, h)) := az_wp_iff.trans az_go_ial
theorem az_s145_44 {x y : Int32} : az_p145 C Q (44, lv, .int y :: .int x :: st, h) ↔ (y ≤ x → az_p145 C Q (66, lv, st, h)) ∧ (¬ y ≤ x → az_p145 C Q (47, lv, st, h)) := az_wp_iff.trans (az_go_if2 az_d_eq)
theorem az_s145_47 : az_p145 C Q (47, lv, st, h) ↔ az_mi (lv 2) (fun x => az_p145 C Q (48, lv, .int x :: st, h)) := az_wp_iff.trans az_go_ldi
theorem az_s145_48 : az_p145 C Q (48, lv, st, h) ↔ az_ma (lv 0) (fun x => az_p145 C Q (49, lv, x :: st, h)) := az_wp_iff.trans az_go_lda
theorem az_s145_49 {a : Nat} : az_p145 C Q (49, lv, .ref a :: st, h) ↔ az_mf (h.1 a) 11 15 (fun v => az_p145 C Q (52, lv, v :: st, h)) := az_wp_iff.trans az_go_gf
theorem az_s145_52 : az_p145 C Q (52, lv, st, h) ↔ az_p145 C Q (53, lv, .int (Int32.ofInt (3)) :: st, h) := az_wp_iff
theorem az_s145_53 : az_p145 C Q (53, lv, st, h) ↔ az_mi (lv 1) (fun x => az_p145 C Q (54, lv, .int x :: st, h)) := az_wp_iff.trans az_go_ldi
theorem az_s145_54 {x y : Int32} : az_p145 C Q (54, lv, .int y :: .int x :: st, h) ↔ az_p145 C Q (55, lv, .int (x * y) :: st, h) := az_wp_iff
theorem az_s145_55 : az_p145 C Q (55, lv, st, h) ↔ az_mi (lv 3) (fun x => az_p145 C Q (56, lv, .int x :: st, h)) := az_wp_iff.trans az_go_ldi
theorem az_s145_56 {x y : Int32} : az_p145 C Q (56, lv, .int y :: .int x :: st, h) ↔ az_p145 C Q (57, lv, .int (x + y) :: st, h) := az_wp_iff
theorem az_s145_57 {a : Nat} {i : Int32} : az_p145 C Q (57, lv, .int i :: .ref a :: st, h) ↔ az_mr (h.1 a) 0 i.toInt (fun x => az_p145 C Q (58, lv, .int x :: st, h)) := az_wp_iff.trans az_go_ial
theorem az_s145_58 {x y : Int32} : az_p145 C Q (58, lv, .int y :: .int x :: st, h) ↔ az_p145 C Q (59, lv, .int (x + y) :: st, h) := az_wp_iff
theorem az_s145_59 {x : Int32} : az_p145 C Q (59, lv, .int x :: st, h) ↔ az_p145 C Q (60, (az_s1 lv 2 (.int x)), st, h) := az_wp_iff
theorem az_s145_60 : az_p145 C Q (60, lv, st, h) ↔ az_mi (lv 3) (fun x => az_p145 C Q (63, (az_s1 lv 3 (.int (x + Int32.ofInt (1)))), st, h)) := az_wp_iff.trans az_go_inc
theorem az_s145_63 : az_p145 C Q (63, lv, st, h) ↔ az_p145 C Q (37, lv, st, h) := az_wp_iff
theorem az_s145_66 : az_p145 C Q (66, lv, st, h) ↔ az_ma (lv 0) (fun x => az_p145 C Q (67, lv, x :: st, h)) := az_wp_iff.trans az_go_lda
theorem az_s145_67 {a : Nat} : az_p145 C Q (67, lv, .ref a :: st, h) ↔ az_mf (h.1 a) 11 8 (fun v => az_p145 C Q (70, lv, v :: st, h)) := az_wp_iff.trans az_go_gf
theorem az_s145_70 : az_p145 C Q (70, lv, st, h) ↔ az_mi (lv 1) (fun x => az_p145 C Q (71, lv, .int x :: st, h)) := az_wp_iff.trans az_go_ldi
theorem az_s145_71 {a : Nat} {i : Int32} : az_p145 C Q (71, lv, .int i :: .ref a :: st, h) ↔ az_mr (h.1 a) 0 i.toInt (fun x => az_p145 C Q (72, lv, .int x :: st, h)) := az_wp_iff.trans az_go_ial
theorem az_s145_72 : az_p145 C Q (72, lv, st, h) ↔ az_p145 C Q (73, lv, .int (Int32.ofInt (2)) :: st, h) := az_wp_iff
theorem az_s145_73 {x y : Int32} : az_p145 C Q (73, lv, .int y :: .int x :: st, h) ↔ (¬ x = y → az_p145 C Q (85, lv, st, h)) ∧ (¬ ¬ x = y → az_p145 C Q (76, lv, st, h)) := az_wp_iff.trans (az_go_if2 az_d_eq)
theorem az_s145_76 : az_p145 C Q (76, lv, st, h) ↔ az_mi (lv 2) (fun x => az_p145 C Q (77, lv, .int x :: st, h)) := az_wp_iff.trans az_go_ldi
theorem az_s145_77 : az_p145 C Q (77, lv, st, h) ↔ az_p145 C Q (80, lv, .int (Int32.ofInt (1000)) :: st, h) := az_wp_iff
theorem az_s145_80 {x y : Int32} : az_p145 C Q (80, lv, .int y :: .int x :: st, h) ↔ (x = y → az_p145 C Q (85, lv, st, h)) ∧ (¬ x = y → az_p145 C Q (83, lv, st, h)) := az_wp_iff.trans (az_go_if2 az_d_eq)
theorem az_s145_83 : az_p145 C Q (83, lv, st, h) ↔ az_p145 C Q (84, lv, .int (Int32.ofInt (3)) :: st, h) := az_wp_iff
theorem az_s145_84 {x : Int32} : az_p145 C Q (84, lv, [.int x], h) ↔ Q (some (.int x)) h := az_wp_iff
theorem az_s145_85 : az_p145 C Q (85, lv, st, h) ↔ az_ma (lv 0) (fun x => az_p145 C Q (86, lv, x :: st, h)) := az_wp_iff.trans az_go_lda
theorem az_s145_86 {a : Nat} : az_p145 C Q (86, lv, .ref a :: st, h) ↔ az_mf (h.1 a) 11 11 (fun v => az_p145 C Q (89, lv, v :: st, h)) := az_wp_iff.trans az_go_gf
theorem az_s145_89 : az_p145 C Q (89, lv, st, h) ↔ az_mi (lv 1) (fun x => az_p145 C Q (90, lv, .int x :: st, h)) := az_wp_iff.trans az_go_ldi
theorem az_s145_90 {a : Nat} {i : Int32} : az_p145 C Q (90, lv, .int i :: .ref a :: st, h) ↔ az_mr (h.1 a) 0 i.toInt (fun x => az_p145 C Q (91, lv, .int x :: st, h)) := az_wp_iff.trans az_go_ial
theorem az_s145_91 : az_p145 C Q (91, lv, st, h) ↔ az_p145 C Q (92, lv, .int (Int32.ofInt (2)) :: st, h) := az_wp_iff
theorem az_s145_92 {x y : Int32} : az_p145 C Q (92, lv, .int y :: .int x :: st, h) ↔ (¬ x = y → az_p145 C Q (120, lv, st, h)) ∧ (¬ ¬ x = y → az_p145 C Q (95, lv, st, h)) := az_wp_iff.trans (az_go_if2 az_d_eq)
theorem az_s145_95 : az_p145 C Q (95, lv, st, h) ↔ az_ma (lv 0) (fun x => az_p145 C Q (96, lv, x :: st, h)) := az_wp_iff.trans az_go_lda
theorem az_s145_96 {a : Nat} : az_p145 C Q (96, lv, .ref a :: st, h) ↔ az_mf (h.1 a) 11 12 (fun v => az_p145 C Q (99, lv, v :: st, h)) := az_wp_iff.trans az_go_gf
theorem az_s145_99 : az_p145 C Q (99, lv, st, h) ↔ az_p145 C Q (100, lv, .int (Int32.ofInt (2)) :: st, h) := az_wp_iff
theorem az_s145_100 : az_p145 C Q (100, lv, st, h) ↔ az_mi (lv 1) (fun x => az_p145 C Q (101, lv, .int x :: st, h)) := az_wp_iff.trans az_go_ldi
theorem az_s145_101 {x y : Int32} : az_p145 C Q (101, lv, .int y :: .int x :: st, h) ↔ az_p145 C Q (102, lv, .int (x * y) :: st, h) := az_wp_iff
theorem az_s145_102 {a : Nat} {i : Int32} : az_p145 C Q (102, lv, .int i :: .ref a :: st, h) ↔ az_mr (h.1 a) 0 i.toInt (fun x => az_p145 C Q (103, lv, .int x :: st, h)) := az_wp_iff.trans az_go_ial
theorem az_s145_103 : az_p145 C Q (103, lv, st, h) ↔ az_ma (lv 0) (fun x => az_p145 C Q (104, lv, x :: st, h)) := az_wp_iff.trans az_go_lda
theorem az_s145_104 {a : Nat} : az_p145 C Q (104, lv, .ref a :: st, h) ↔ az_mf (h.1 a) 11 12 (fun v => az_p145 C Q (107, lv, v :: st, h)) := az_wp_iff.trans az_go_gf
theorem az_s145_107 : az_p145 C Q (107, lv, st, h) ↔ az_p145 C Q (108, lv, .int (Int32.ofInt (2)) :: st, h) := az_wp_iff
theorem az_s145_108 : az_p145 C Q (108, lv, st, h) ↔ az_mi (lv 1) (fun x => az_p145 C Q (109, lv, .int x :: st, h)) := az_wp_iff.trans az_go_ldi
theorem az_s145_109 {x y : Int32} : az_p145 C Q (109, lv, .int y :: .int x :: st, h) ↔ az_p145 C Q (110, lv, .int (x * y) :: st, h) := az_wp_iff
theorem az_s145_110 : az_p145 C Q (110, lv, st, h) ↔ az_p145 C Q (111, lv, .int (Int32.ofInt (1)) :: st, h) := az_wp_iff
theorem az_s145_111 {x y : Int32} : az_p145 C Q (111, lv, .int y :: .int x :: st, h) ↔ az_p145 C Q (112, lv, .int (x + y) :: st, h) := az_wp_iff
theorem az_s145_112 {a : Nat} {i : Int32} : az_p145 C Q (112, lv, .int i :: .ref a :: st, h) ↔ az_mr (h.1 a) 0 i.toInt (fun x => az_p145 C Q (113, lv, .int x :: st, h)) := az_wp_iff.trans az_go_ial
theorem az_s145_113 {x y : Int32} : az_p145 C Q (113, lv, .int y :: .int x :: st, h) ↔ (¬ x = y → az_p145 C Q (120, lv, st, h)) ∧ (¬ ¬ x = y → az_p145 C Q (116, lv, st, h)) := az_wp_iff.trans (az_go_if2 az_d_eq)
theorem az_s145_116 : az_p145 C Q (116, lv, st, h) ↔ az_p145 C Q (117, lv, .int (Int32.ofInt (1)) :: st, h) := az_wp_iff
theorem az_s145_117 : az_p145 C Q (117, lv, st, h) ↔ az_p145 C Q (121, lv, st, h) := az_wp_iff
theorem az_s145_120 : az_p145 C Q (120, lv, st, h) ↔ az_p145 C Q (121, lv, .int (Int32.ofInt (0)) :: st, h) := az_wp_iff
theorem az_s145_121 {x : Int32} : az_p145 C Q (121, lv, .int x :: st, h) ↔ az_p145 C Q (122, (az_s1 lv 3 (.int x)), st, h) := az_wp_iff
theorem az_s145_122 : az_p145 C Q (122, lv, st, h) ↔ az_p145 C Q (123, lv, .int (Int32.ofInt (0)) :: st, h) := az_wp_iff
theorem az_s145_123 {x : Int32} : az_p145 C Q (123, lv, .int x :: st, h) ↔ az_p145 C Q (125, (az_s1 lv 4 (.int x)), st, h) := az_wp_iff
theorem az_s145_125 : az_p145 C Q (125, lv, st, h) ↔ az_mi (lv 4) (fun x => az_p145 C Q (127, lv, .int x :: st, h)) := az_wp_iff.trans az_go_ldi
theorem az_s145_127 : az_p145 C Q (127, lv, st, h) ↔ az_mi (lv 1) (fun x => az_p145 C Q (128, lv, .int x :: st, h)) := az_wp_iff.trans az_go_ldi
theorem az_s145_128 {x y : Int32} : az_p145 C Q (128, lv, .int y :: .int x :: st, h) ↔ (y ≤ x → az_p145 C Q (197, lv, st, h)) ∧ (¬ y ≤ x → az_p145 C Q (131, lv, st, h)) := az_wp_iff.trans (az_go_if2 az_d_eq)
theorem az_s145_131 : az_p145 C Q (131, lv, st, h) ↔ az_p145 C Q (132, lv, .int (Int32.ofInt (0)) :: st, h) := az_wp_iff
theorem az_s145_132 {x : Int32} : az_p145 C Q (132, lv, .int x :: st, h) ↔ az_p145 C Q (134, (az_s1 lv 5 (.int x)), st, h) := az_wp_iff
theorem az_s145_134 : az_p145 C Q (134, lv, st, h) ↔ az_mi (lv 5) (fun x => az_p145 C Q (136, lv, .int x :: st, h)) := az_wp_iff.trans az_go_ldi
theorem az_s145_136 : az_p145 C Q (136, lv, st, h) ↔ az_ma (lv 0) (fun x => az_p145 C Q (137, lv, x :: st, h)) := az_wp_iff.trans az_go_lda
theorem az_s145_137 {a : Nat} : az_p145 C Q (137, lv, .ref a :: st, h) ↔ az_mf (h.1 a) 11 11 (fun v => az_p145 C Q (140, lv, v :: st, h)) := az_wp_iff.trans az_go_gf
theorem az_s145_140 : az_p145 C Q (140, lv, st, h) ↔ az_mi (lv 1) (fun x => az_p145 C Q (141, lv, .int x :: st, h)) := az_wp_iff.trans az_go_ldi
theorem az_s145_141 {a : Nat} {i : Int32} : az_p145 C Q (141, lv, .int i :: .ref a :: st, h) ↔ az_mr (h.1 a) 0 i.toInt (fun x => az_p145 C Q (142, lv, .int x :: st, h)) := az_wp_iff.trans az_go_ial
theorem az_s145_142 {x y : Int32} : az_p145 C Q (142, lv, .int y :: .int x :: st, h) ↔ (y ≤ x → az_p145 C Q (191, lv, st, h)) ∧ (¬ y ≤ x → az_p145 C Q (145, lv, st, h)) := az_wp_iff.trans (az_go_if2 az_d_eq)
theorem az_s145_145 : az_p145 C Q (145, lv, st, h) ↔ az_ma (lv 0) (fun x => az_p145 C Q (146, lv, x :: st, h)) := az_wp_iff.trans az_go_lda
theorem az_s145_146 {a : Nat} : az_p145 C Q (146, lv, .ref a :: st, h) ↔ az_mf (h.1 a) 11 7 (fun v => az_p145 C Q (149, lv, v :: st, h)) := az_wp_iff.trans az_go_gf
theorem az_s145_149 : az_p145 C Q (149, lv, st, h) ↔ az_mi (lv 4) (fun x => az_p145 C Q (151, lv, .int x :: st, h)) := az_wp_iff.trans az_go_ldi
theorem az_s145_151 {a : Nat} {i : Int32} : az_p145 C Q (151, lv, .int i :: .ref a :: st, h) ↔ az_mr (h.1 a) 1 i.toInt (fun x => az_p145 C Q (152, lv, .int x :: st, h)) := az_wp_iff.trans az_go_ial
theorem az_s145_152 {x : Int32} : az_p145 C Q (152, lv, .int x :: st, h) ↔ (x = 0 → az_p145 C Q (191, lv, st, h)) ∧ (¬ x = 0 → az_p145 C Q (155, lv, st, h)) := az_wp_iff.trans (az_go_if1 az_d_eq)
theorem az_s145_155 : az_p145 C Q (155, lv, st, h) ↔ az_mi (lv 3) (fun x => az_p145 C Q (156, lv, .int x :: st, h)) := az_wp_iff.trans az_go_ldi
theorem az_s145_156 {x : Int32} : az_p145 C Q (156, lv, .int x :: st, h) ↔ (¬ x = 0 → az_p145 C Q (179, lv, st, h)) ∧ (¬ ¬ x = 0 → az_p145 C Q (159, lv, st, h)) := az_wp_iff.trans (az_go_if1 az_d_eq)
theorem az_s145_159 : az_p145 C Q (159, lv, st, h) ↔ az_ma (lv 0) (fun x => az_p145 C Q (160, lv, x :: st, h)) := az_wp_iff.trans az_go_lda
theorem az_s145_160 : az_p145 C Q (160, lv, st, h) ↔ az_mi (lv 4) (fun x => az_p145 C Q (162, lv, .int x :: st, h)) := az_wp_iff.trans az_go_ldi
theorem az_s145_162 : az_p145 C Q (162, lv, st, h) ↔ az_ma (lv 0) (fun x => az_p145 C Q (163, lv, x :: st, h)) := az_wp_iff.trans az_go_lda
theorem az_s145_163 {a : Nat} : az_p145 C Q (163, lv, .ref a :: st, h) ↔ az_mf (h.1 a) 11 12 (fun v => az_p145 C Q (166, lv, v :: st, h)) := az_wp_iff.trans az_go_gf
theorem az_s145_166 : az_p145 C Q (166, lv, st, h) ↔ az_p145 C Q (167, lv, .int (Int32.ofInt (2)) :: st, h) := az_wp_iff
theorem az_s145_167 : az_p145 C Q (167, lv, st, h) ↔ az_mi (lv 1) (fun x => az_p145 C Q (168, lv, .int x :: st, h)) := az_wp_iff.trans az_go_ldi
theorem az_s145_168 {x y : Int32} : az_p145 C Q (168, lv, .int y :: .int x :: st, h) ↔ az_p145 C Q (169, lv, .int (x * y) :: st, h) := az_wp_iff
theorem az_s145_169 : az_p145 C Q (169, lv, st, h) ↔ az_mi (lv 5) (fun x => az_p145 C Q (171, lv, .int x :: st, h)) := az_wp_iff.trans az_go_ldi
theorem az_s145_171 {x y : Int32} : az_p145 C Q (171, lv, .int y :: .int x :: st, h) ↔ az_p145 C Q (172, lv, .int (x + y) :: st, h) := az_wp_iff
theorem az_s145_172 {a : Nat} {i : Int32} : az_p145 C Q (172, lv, .int i :: .ref a :: st, h) ↔ az_mr (h.1 a) 0 i.toInt (fun x => az_p145 C Q (173, lv, .int x :: st, h)) := az_wp_iff.trans az_go_ial
theorem az_s145_173 {a : Nat} {v1 v2 : Value} : az_p145 C Q (173, lv, v2 :: v1 :: .ref a :: st, h) ↔ az_isob (h.1 a) 11 = true ∧ az_cat st ≤ 8 ∧ az_mc C 144 [.ref a, v1, v2] h (fun v h' => az_p145 C Q (176, lv, v ++ st, h')) := az_wp_iff.trans (az_go_if.trans (and_congr Iff.rfl az_go_call))
theorem az_s145_176 {x : Int32} : az_p145 C Q (176, lv, .int x :: st, h) ↔ (x = 0 → az_p145 C Q (183, lv, st, h)) ∧ (¬ x = 0 → az_p145 C Q (179, lv, st, h)) := az_wp_iff.trans (az_go_if1 az_d_eq)
theorem az_s145_179 : az_p145 C Q (179, lv, st, h) ↔ az_p145 C Q (180, lv, .int (Int32.ofInt (1)) :: st, h) := az_wp_iff
theorem az_s145_180 : az_p145 C Q (180, lv, st, h) ↔ az_p145 C Q (184, lv, st, h) := az_wp_iff
theorem az_s145_183 : az_p145 C Q (183, lv, st, h) ↔ az_p145 C Q (184, lv, .int (Int32.ofInt (0)) :: st, h) := az_wp_iff
theorem az_s145_184 {x : Int32} : az_p145 C Q (184, lv, .int x :: st, h) ↔ az_p145 C Q (185, (az_s1 lv 3 (.int x)), st, h) := az_wp_iff
theorem az_s145_185 : az_p145 C Q (185, lv, st, h) ↔ az_mi (lv 5) (fun x => az_p145 C Q (188, (az_s1 lv 5 (.int (x + Int32.ofInt (1)))), st, h)) := az_wp_iff.trans az_go_inc
theorem az_s145_188 : az_p145 C Q (188, lv, st, h) ↔ az_p145 C Q (134, lv, st, h) := az_wp_iff
theorem az_s145_191 : az_p145 C Q (191, lv, st, h) ↔ az_mi (lv 4) (fun x => az_p145 C Q (194, (az_s1 lv 4 (.int (x + Int32.ofInt (1)))), st, h)) := az_wp_iff.trans az_go_inc
theorem az_s145_194 : az_p145 C Q (194, lv, st, h) ↔ az_p145 C Q (125, lv, st, h) := az_wp_iff
theorem az_s145_197 : az_p145 C Q (197, lv, st, h) ↔ az_mi (lv 3) (fun x => az_p145 C Q (198, lv, .int x :: st, h)) := az_wp_iff.trans az_go_ldi
theorem az_s145_198 {x : Int32} : az_p145 C Q (198, lv, .int x :: st, h) ↔ (x = 0 → az_p145 C Q (205, lv, st, h)) ∧ (¬ x = 0 → az_p145 C Q (201, lv, st, h)) := az_wp_iff.trans (az_go_if1 az_d_eq)
theorem az_s145_201 : az_p145 C Q (201, lv, st, h) ↔ az_p145 C Q (202, lv, .int (Int32.ofInt (4)) :: st, h) := az_wp_iff
theorem az_s145_202 : az_p145 C Q (202, lv, st, h) ↔ az_p145 C Q (206, lv, st, h) := az_wp_iff
theorem az_s145_205 : az_p145 C Q (205, lv, st, h) ↔ az_p145 C Q (206, lv, .int (Int32.ofInt (0)) :: st, h) := az_wp_iff
theorem az_s145_206 {x : Int32} : az_p145 C Q (206, lv, [.int x], h) ↔ Q (some (.int x)) h := az_wp_iff
def az_p146 (C : az_Cl) (Q : Option Value → az_H → Prop) : az_S → Prop := az_wp C (fun _ => none) (some .int) (az_fn az_k146) Q
theorem az_s146_0 : az_p146 C Q (0, lv, st, h) ↔ az_p146 C Q (1, lv, .int (Int32.ofInt (0)) :: st, h) := az_wp_iff
theorem az_s146_1 {x : Int32} : az_p146 C Q (1, lv, .int x :: st, h) ↔ az_p146 C Q (2, (az_s1 lv 1 (.int x)), st, h) := az_wp_iff
theorem az_s146_2 : az_p146 C Q (2, lv, st, h) ↔ az_p146 C Q (3, lv, .int (Int32.ofInt (0)) :: st, h) := az_wp_iff
theorem az_s146_3 {x : Int32} : az_p146 C Q (3, lv, .int x :: st, h) ↔ az_p146 C Q (4, (az_s1 lv 2 (.int x)), st, h) := az_wp_iff
theorem az_s146_4 : az_p146 C Q (4, lv, st, h) ↔ az_mi (lv 2) (fun x => az_p146 C Q (5, lv, .int x :: st, h)) := az_wp_iff.trans az_go_ldi
theorem az_s146_5 : az_p146 C Q (5, lv, st, h) ↔ az_p146 C Q (7, lv, .int (Int32.ofInt (12)) :: st, h) := az_wp_iff
theorem az_s146_7 {x y : Int32} : az_p146 C Q (7, lv, .int y :: .int x :: st, h) ↔ (y ≤ x → az_p146 C Q (33, lv, st, h)) ∧ (¬ y ≤ x → az_p146 C Q (10, lv, st, h)) := az_wp_iff.trans (az_go_if2 az_d_eq)
theorem az_s146_10 : az_p146 C Q (10, lv, st, h) ↔ az_mi (lv 1) (fun x => az_p146 C Q (11, lv, .int x :: st, h)) := az_wp_iff.trans az_go_ldi
theorem az_s146_11 : az_p146 C Q (11, lv, st, h) ↔ az_ma (lv 0) (fun x => az_p146 C Q (12, lv, x :: st, h)) := az_wp_iff.trans az_go_lda
theorem az_s146_12 {a : Nat} : az_p146 C Q (12, lv, .ref a :: st, h) ↔ az_mf (h.1 a) 11 7 (fun v => az_p146 C Q (15, lv, v :: st, h)) := az_wp_iff.trans az_go_gf
theorem az_s146_15 : az_p146 C Q (15, lv, st, h) ↔ az_mi (lv 2) (fun x => az_p146 C Q (16, lv, .int x :: st, h)) := az_wp_iff.trans az_go_ldi
theorem az_s146_16 {a : Nat} {i : Int32} : az_p146 C Q (16, lv, .int i :: .ref a :: st, h) ↔ az_mr (h.1 a) 1 i.toInt (fun x => az_p146 C Q (17, lv, .int x :: st, h)) := az_wp_iff.trans az_go_ial
theorem az_s146_17 {x : Int32} : az_p146 C Q (17, lv, .int x :: st, h) ↔ (x = 0 → az_p146 C Q (24, lv, st, h)) ∧ (¬ x = 0 → az_p146 C Q (20, lv, st, h)) := az_wp_iff.trans (az_go_if1 az_d_eq)
theorem az_s146_20 : az_p146 C Q (20, lv, st, h) ↔ az_p146 C Q (21, lv, .int (Int32.ofInt (1)) :: st, h) := az_wp_iff
theorem az_s146_21 : az_p146 C Q (21, lv, st, h) ↔ az_p146 C Q (25, lv, st, h) := az_wp_iff
theorem az_s146_24 : az_p146 C Q (24, lv, st, h) ↔ az_p146 C Q (25, lv, .int (Int32.ofInt (0)) :: st, h) := az_wp_iff
theorem az_s146_25 {x y : Int32} : az_p146 C Q (25, lv, .int y :: .int x :: st, h) ↔ az_p146 C Q (26, lv, .int (x + y) :: st, h) := az_wp_iff
theorem az_s146_26 {x : Int32} : az_p146 C Q (26, lv, .int x :: st, h) ↔ az_p146 C Q (27, (az_s1 lv 1 (.int x)), st, h) := az_wp_iff
theorem az_s146_27 : az_p146 C Q (27, lv, st, h) ↔ az_mi (lv 2) (fun x => az_p146 C Q (30, (az_s1 lv 2 (.int (x + Int32.ofInt (1)))), st, h)) := az_wp_iff.trans az_go_inc
theorem az_s146_30 : az_p146 C Q (30, lv, st, h) ↔ az_p146 C Q (4, lv, st, h) := az_wp_iff
theorem az_s146_33 : az_p146 C Q (33, lv, st, h) ↔ az_ma (lv 0) (fun x => az_p146 C Q (34, lv, x :: st, h)) := az_wp_iff.trans az_go_lda
theorem az_s146_34 {a : Nat} : az_p146 C Q (34, lv, .ref a :: st, h) ↔ az_mf (h.1 a) 11 0 (fun v => az_p146 C Q (37, lv, v :: st, h)) := az_wp_iff.trans az_go_gf
theorem az_s146_37 {x : Int32} : az_p146 C Q (37, lv, .int x :: st, h) ↔ (¬ x = 0 → az_p146 C Q (44, lv, st, h)) ∧ (¬ ¬ x = 0 → az_p146 C Q (40, lv, st, h)) := az_wp_iff.trans (az_go_if1 az_d_eq)
theorem az_s146_40 : az_p146 C Q (40, lv, st, h) ↔ az_mi (lv 1) (fun x => az_p146 C Q (41, lv, .int x :: st, h)) := az_wp_iff.trans az_go_ldi
theorem az_s146_41 {x : Int32} : az_p146 C Q (41, lv, .int x :: st, h) ↔ (¬ x = 0 → az_p146 C Q (46, lv, st, h)) ∧ (¬ ¬ x = 0 → az_p146 C Q (44, lv, st, h)) := az_wp_iff.trans (az_go_if1 az_d_eq)
theorem az_s146_44 : az_p146 C Q (44, lv, st, h) ↔ az_p146 C Q (45, lv, .int (Int32.ofInt (-1)) :: st, h) := az_wp_iff
theorem az_s146_45 {x : Int32} : az_p146 C Q (45, lv, [.int x], h) ↔ Q (some (.int x)) h := az_wp_iff
theorem az_s146_46 : az_p146 C Q (46, lv, st, h) ↔ az_p146 C Q (47, lv, .int (Int32.ofInt (0)) :: st, h) := az_wp_iff
theorem az_s146_47 {x : Int32} : az_p146 C Q (47, lv, .int x :: st, h) ↔ az_p146 C Q (48, (az_s1 lv 2 (.int x)), st, h) := az_wp_iff
theorem az_s146_48 : az_p146 C Q (48, lv, st, h) ↔ az_mi (lv 2) (fun x => az_p146 C Q (49, lv, .int x :: st, h)) := az_wp_iff.trans az_go_ldi
theorem az_s146_49 : az_p146 C Q (49, lv, st, h) ↔ az_p146 C Q (51, lv, .int (Int32.ofInt (12)) :: st, h) := az_wp_iff
theorem az_s146_51 {x y : Int32} : az_p146 C Q (51, lv, .int y :: .int x :: st, h) ↔ (y ≤ x → az_p146 C Q (90, lv, st, h)) ∧ (¬ y ≤ x → az_p146 C Q (54, lv, st, h)) := az_wp_iff.trans (az_go_if2 az_d_eq)
theorem az_s146_54 : az_p146 C Q (54, lv, st, h) ↔ az_ma (lv 0) (fun x => az_p146 C Q (55, lv, x :: st, h)) := az_wp_iff.trans az_go_lda
theorem az_s146_55 {a : Nat} : az_p146 C Q (55, lv, .ref a :: st, h) ↔ az_mf (h.1 a) 11 7 (fun v => az_p146 C Q (58, lv, v :: st, h)) := az_wp_iff.trans az_go_gf
theorem az_s146_58 : az_p146 C Q (58, lv, st, h) ↔ az_mi (lv 2) (fun x => az_p146 C Q (59, lv, .int x :: st, h)) := az_wp_iff.trans az_go_ldi
theorem az_s146_59 {a : Nat} {i : Int32} : az_p146 C Q (59, lv, .int i :: .ref a :: st, h) ↔ az_mr (h.1 a) 1 i.toInt (fun x => az_p146 C Q (60, lv, .int x :: st, h)) := az_wp_iff.trans az_go_ial
theorem az_s146_60 {x : Int32} : az_p146 C Q (60, lv, .int x :: st, h) ↔ (x = 0 → az_p146 C Q (71, lv, st, h)) ∧ (¬ x = 0 → az_p146 C Q (63, lv, st, h)) := az_wp_iff.trans (az_go_if1 az_d_eq)
theorem az_s146_63 : az_p146 C Q (63, lv, st, h) ↔ az_ma (lv 0) (fun x => az_p146 C Q (64, lv, x :: st, h)) := az_wp_iff.trans az_go_lda
theorem az_s146_64 : az_p146 C Q (64, lv, st, h) ↔ az_mi (lv 2) (fun x => az_p146 C Q (65, lv, .int x :: st, h)) := az_wp_iff.trans az_go_ldi
theorem az_s146_65 {a : Nat} {v1 : Value} : az_p146 C Q (65, lv, v1 :: .ref a :: st, h) ↔ az_isob (h.1 a) 11 = true ∧ az_cat st ≤ 8 ∧ az_mc C 145 [.ref a, v1] h (fun v h' => az_p146 C Q (68, lv, v ++ st, h')) := az_wp_iff.trans (az_go_if.trans (and_congr Iff.rfl az_go_call))
theorem az_s146_68 : az_p146 C Q (68, lv, st, h) ↔ az_p146 C Q (72, lv, st, h) := az_wp_iff
theorem az_s146_71 : az_p146 C Q (71, lv, st, h) ↔ az_p146 C Q (72, lv, .int (Int32.ofInt (0)) :: st, h) := az_wp_iff
theorem az_s146_72 {x : Int32} : az_p146 C Q (72, lv, .int x :: st, h) ↔ az_p146 C Q (73, (az_s1 lv 3 (.int x)), st, h) := az_wp_iff
theorem az_s146_73 : az_p146 C Q (73, lv, st, h) ↔ az_mi (lv 3) (fun x => az_p146 C Q (74, lv, .int x :: st, h)) := az_wp_iff.trans az_go_ldi
theorem az_s146_74 {x : Int32} : az_p146 C Q (74, lv, .int x :: st, h) ↔ (x ≤ 0 → az_p146 C Q (84, lv, st, h)) ∧ (¬ x ≤ 0 → az_p146 C Q (77, lv, st, h)) := az_wp_iff.trans (az_go_if1 az_d_eq)
theorem az_s146_77 : az_p146 C Q (77, lv, st, h) ↔ az_p146 C Q (79, lv, .int (Int32.ofInt (100)) :: st, h) := az_wp_iff
theorem az_s146_79 : az_p146 C Q (79, lv, st, h) ↔ az_mi (lv 2) (fun x => az_p146 C Q (80, lv, .int x :: st, h)) := az_wp_iff.trans az_go_ldi
theorem az_s146_80 {x y : Int32} : az_p146 C Q (80, lv, .int y :: .int x :: st, h) ↔ az_p146 C Q (81, lv, .int (x * y) :: st, h) := az_wp_iff
theorem az_s146_81 : az_p146 C Q (81, lv, st, h) ↔ az_mi (lv 3) (fun x => az_p146 C Q (82, lv, .int x :: st, h)) := az_wp_iff.trans az_go_ldi
theorem az_s146_82 {x y : Int32} : az_p146 C Q (82, lv, .int y :: .int x :: st, h) ↔ az_p146 C Q (83, lv, .int (x + y) :: st, h) := az_wp_iff
theorem az_s146_83 {x : Int32} : az_p146 C Q (83, lv, [.int x], h) ↔ Q (some (.int x)) h := az_wp_iff
theorem az_s146_84 : az_p146 C Q (84, lv, st, h) ↔ az_mi (lv 2) (fun x => az_p146 C Q (87, (az_s1 lv 2 (.int (x + Int32.ofInt (1)))), st, h)) := az_wp_iff.trans az_go_inc
theorem az_s146_87 : az_p146 C Q (87, lv, st, h) ↔ az_p146 C Q (48, lv, st, h) := az_wp_iff
theorem az_s146_90 : az_p146 C Q (90, lv, st, h) ↔ az_ma (lv 0) (fun x => az_p146 C Q (91, lv, x :: st, h)) := az_wp_iff.trans az_go_lda
theorem az_s146_91 : az_p146 C Q (91, lv, st, h) ↔ az_p146 C Q (92, lv, .int (Int32.ofInt (1)) :: st, h) := az_wp_iff
theorem az_s146_92 {a : Nat} {v : Value} : az_p146 C Q (92, lv, v :: .ref a :: st, h) ↔ az_mp (h.1 a) 11 0 2 v (fun c => az_p146 C Q (95, lv, st, az_uh h a c)) := az_wp_iff.trans az_go_pf
theorem az_s146_95 : az_p146 C Q (95, lv, st, h) ↔ az_p146 C Q (96, lv, .int (Int32.ofInt (0)) :: st, h) := az_wp_iff
theorem az_s146_96 {x : Int32} : az_p146 C Q (96, lv, [.int x], h) ↔ Q (some (.int x)) h := az_wp_iff
def az_p147 (C : az_Cl) (Q : Option Value → az_H → Prop) : az_S → Prop := az_wp C (fun _ => none) (some .int) (az_fn az_k147) Q
theorem az_s147_0 : az_p147 C Q (0, lv, st, h) ↔ az_ma (lv 0) (fun x => az_p147 C Q (1, lv, x :: st, h)) := az_wp_iff.trans az_go_lda
theorem az_s147_1 {a : Nat} : az_p147 C Q (1, lv, .ref a :: st, h) ↔ az_mf (h.1 a) 11 0 (fun v => az_p147 C Q (4, lv, v :: st, h)) := az_wp_iff.trans az_go_gf
theorem az_s147_4 {x : Int32} : az_p147 C Q (4, lv, .int x :: st, h) ↔ (x = 0 → az_p147 C Q (89, lv, st, h)) ∧ (¬ x = 0 → az_p147 C Q (7, lv, st, h)) := az_wp_iff.trans (az_go_if1 az_d_eq)
theorem az_s147_7 : az_p147 C Q (7, lv, st, h) ↔ az_ma (lv 0) (fun x => az_p147 C Q (8, lv, x :: st, h)) := az_wp_iff.trans az_go_lda
theorem az_s147_8 {a : Nat} : az_p147 C Q (8, lv, .ref a :: st, h) ↔ az_mf (h.1 a) 11 1 (fun v => az_p147 C Q (11, lv, v :: st, h)) := az_wp_iff.trans az_go_gf
theorem az_s147_11 {x : Int32} : az_p147 C Q (11, lv, .int x :: st, h) ↔ (¬ x = 0 → az_p147 C Q (89, lv, st, h)) ∧ (¬ ¬ x = 0 → az_p147 C Q (14, lv, st, h)) := az_wp_iff.trans (az_go_if1 az_d_eq)
theorem az_s147_14 : az_p147 C Q (14, lv, st, h) ↔ az_ma (lv 0) (fun x => az_p147 C Q (15, lv, x :: st, h)) := az_wp_iff.trans az_go_lda
theorem az_s147_15 : az_p147 C Q (15, lv, st, h) ↔ az_mi (lv 1) (fun x => az_p147 C Q (16, lv, .int x :: st, h)) := az_wp_iff.trans az_go_ldi
theorem az_s147_16 {a : Nat} {v1 : Value} : az_p147 C Q (16, lv, v1 :: .ref a :: st, h) ↔ az_isob (h.1 a) 11 = true ∧ az_cat st ≤ 8 ∧ az_mc C 135 [.ref a, v1] h (fun v h' => az_p147 C Q (19, lv, v ++ st, h')) := az_wp_iff.trans (az_go_if.trans (and_congr Iff.rfl az_go_call))
theorem az_s147_19 {x : Int32} : az_p147 C Q (19, lv, .int x :: st, h) ↔ (x = 0 → az_p147 C Q (89, lv, st, h)) ∧ (¬ x = 0 → az_p147 C Q (22, lv, st, h)) := az_wp_iff.trans (az_go_if1 az_d_eq)
theorem az_s147_22 : az_p147 C Q (22, lv, st, h) ↔ az_mi (lv 2) (fun x => az_p147 C Q (23, lv, .int x :: st, h)) := az_wp_iff.trans az_go_ldi
theorem az_s147_23 : az_p147 C Q (23, lv, st, h) ↔ az_p147 C Q (24, lv, .int (Int32.ofInt (1)) :: st, h) := az_wp_iff
theorem az_s147_24 : az_p147 C Q (24, lv, st, h) ↔ az_p147 C Q (26, lv, .int (Int32.ofInt (100000)) :: st, h) := az_wp_iff
theorem az_s147_26 {v1 v2 v3 : Value} : az_p147 C Q (26, lv, v3 :: v2 :: v1 :: st, h) ↔ az_cat st ≤ 8 ∧ az_mc C 134 [v1, v2, v3] h (fun v h' => az_p147 C Q (29, lv, v ++ st, h')) := az_wp_iff.trans az_go_call
theorem az_s147_29 {x : Int32} : az_p147 C Q (29, lv, .int x :: st, h) ↔ (x = 0 → az_p147 C Q (89, lv, st, h)) ∧ (¬ x = 0 → az_p147 C Q (32, lv, st, h)) := az_wp_iff.trans (az_go_if1 az_d_eq)
theorem az_s147_32 : az_p147 C Q (32, lv, st, h) ↔ az_mi (lv 3) (fun x => az_p147 C Q (33, lv, .int x :: st, h)) := az_wp_iff.trans az_go_ldi
theorem az_s147_33 : az_p147 C Q (33, lv, st, h) ↔ az_p147 C Q (34, lv, .int (Int32.ofInt (0)) :: st, h) := az_wp_iff
theorem az_s147_34 : az_p147 C Q (34, lv, st, h) ↔ az_p147 C Q (36, lv, .int (Int32.ofInt (9)) :: st, h) := az_wp_iff
theorem az_s147_36 {v1 v2 v3 : Value} : az_p147 C Q (36, lv, v3 :: v2 :: v1 :: st, h) ↔ az_cat st ≤ 8 ∧ az_mc C 134 [v1, v2, v3] h (fun v h' => az_p147 C Q (39, lv, v ++ st, h')) := az_wp_iff.trans az_go_call
theorem az_s147_39 {x : Int32} : az_p147 C Q (39, lv, .int x :: st, h) ↔ (x = 0 → az_p147 C Q (89, lv, st, h)) ∧ (¬ x = 0 → az_p147 C Q (42, lv, st, h)) := az_wp_iff.trans (az_go_if1 az_d_eq)
theorem az_s147_42 : az_p147 C Q (42, lv, st, h) ↔ az_mi (lv 4) (fun x => az_p147 C Q (44, lv, .int x :: st, h)) := az_wp_iff.trans az_go_ldi
theorem az_s147_44 : az_p147 C Q (44, lv, st, h) ↔ az_p147 C Q (45, lv, .int (Int32.ofInt (0)) :: st, h) := az_wp_iff
theorem az_s147_45 : az_p147 C Q (45, lv, st, h) ↔ az_p147 C Q (48, lv, .int (Int32.ofInt (999)) :: st, h) := az_wp_iff
theorem az_s147_48 {v1 v2 v3 : Value} : az_p147 C Q (48, lv, v3 :: v2 :: v1 :: st, h) ↔ az_cat st ≤ 8 ∧ az_mc C 134 [v1, v2, v3] h (fun v h' => az_p147 C Q (51, lv, v ++ st, h')) := az_wp_iff.trans az_go_call
theorem az_s147_51 {x : Int32} : az_p147 C Q (51, lv, .int x :: st, h) ↔ (x = 0 → az_p147 C Q (89, lv, st, h)) ∧ (¬ x = 0 → az_p147 C Q (54, lv, st, h)) := az_wp_iff.trans (az_go_if1 az_d_eq)
theorem az_s147_54 : az_p147 C Q (54, lv, st, h) ↔ az_mi (lv 5) (fun x => az_p147 C Q (56, lv, .int x :: st, h)) := az_wp_iff.trans az_go_ldi
theorem az_s147_56 : az_p147 C Q (56, lv, st, h) ↔ az_p147 C Q (57, lv, .int (Int32.ofInt (0)) :: st, h) := az_wp_iff
theorem az_s147_57 : az_p147 C Q (57, lv, st, h) ↔ az_p147 C Q (58, lv, .int (Int32.ofInt (3)) :: st, h) := az_wp_iff
theorem az_s147_58 {v1 v2 v3 : Value} : az_p147 C Q (58, lv, v3 :: v2 :: v1 :: st, h) ↔ az_cat st ≤ 8 ∧ az_mc C 134 [v1, v2, v3] h (fun v h' => az_p147 C Q (61, lv, v ++ st, h')) := az_wp_iff.trans az_go_call
theorem az_s147_61 {x : Int32} : az_p147 C Q (61, lv, .int x :: st, h) ↔ (x = 0 → az_p147 C Q (89, lv, st, h)) ∧ (¬ x = 0 → az_p147 C Q (64, lv, st, h)) := az_wp_iff.trans (az_go_if1 az_d_eq)
theorem az_s147_64 : az_p147 C Q (64, lv, st, h) ↔ az_ma (lv 0) (fun x => az_p147 C Q (65, lv, x :: st, h)) := az_wp_iff.trans az_go_lda
theorem az_s147_65 {a : Nat} : az_p147 C Q (65, lv, .ref a :: st, h) ↔ az_mf (h.1 a) 11 4 (fun v => az_p147 C Q (68, lv, v :: st, h)) := az_wp_iff.trans az_go_gf
theorem az_s147_68 : az_p147 C Q (68, lv, st, h) ↔ az_mi (lv 1) (fun x => az_p147 C Q (69, lv, .int x :: st, h)) := az_wp_iff.trans az_go_ldi
theorem az_s147_69 {a : Nat} {i : Int32} : az_p147 C Q (69, lv, .int i :: .ref a :: st, h) ↔ az_mr (h.1 a) 0 i.toInt (fun x => az_p147 C Q (70, lv, .int x :: st, h)) := az_wp_iff.trans az_go_ial
theorem az_s147_70 : az_p147 C Q (70, lv, st, h) ↔ az_ma (lv 0) (fun x => az_p147 C Q (71, lv, x :: st, h)) := az_wp_iff.trans az_go_lda
theorem az_s147_71 {a : Nat} : az_p147 C Q (71, lv, .ref a :: st, h) ↔ az_mf (h.1 a) 11 3 (fun v => az_p147 C Q (74, lv, v :: st, h)) := az_wp_iff.trans az_go_gf
theorem az_s147_74 : az_p147 C Q (74, lv, st, h) ↔ az_mi (lv 1) (fun x => az_p147 C Q (75, lv, .int x :: st, h)) := az_wp_iff.trans az_go_ldi
theorem az_s147_75 {a : Nat} {i : Int32} : az_p147 C Q (75, lv, .int i :: .ref a :: st, h) ↔ az_mr (h.1 a) 0 i.toInt (fun x => az_p147 C Q (76, lv, .int x :: st, h)) := az_wp_iff.trans az_go_ial
theorem az_s147_76 {x y : Int32} : az_p147 C Q (76, lv, .int y :: .int x :: st, h) ↔ (y ≤ x → az_p147 C Q (89, lv, st, h)) ∧ (¬ y ≤ x → az_p147 C Q (79, lv, st, h)) := az_wp_iff.trans (az_go_if2 az_d_eq)
theorem az_s147_79 : az_p147 C Q (79, lv, st, h) ↔ az_ma (lv 0) (fun x => az_p147 C Q (80, lv, x :: st, h)) := az_wp_iff.trans az_go_lda
theorem az_s147_80 {a : Nat} : az_p147 C Q (80, lv, .ref a :: st, h) ↔ az_mf (h.1 a) 11 33 (fun v => az_p147 C Q (83, lv, v :: st, h)) := az_wp_iff.trans az_go_gf
theorem az_s147_83 : az_p147 C Q (83, lv, st, h) ↔ az_p147 C Q (86, lv, .int (Int32.ofInt (1500)) :: st, h) := az_wp_iff
theorem az_s147_86 {x y : Int32} : az_p147 C Q (86, lv, .int y :: .int x :: st, h) ↔ (¬ x = y → az_p147 C Q (91, lv, st, h)) ∧ (¬ ¬ x = y → az_p147 C Q (89, lv, st, h)) := az_wp_iff.trans (az_go_if2 az_d_eq)
theorem az_s147_89 : az_p147 C Q (89, lv, st, h) ↔ az_p147 C Q (90, lv, .int (Int32.ofInt (-1)) :: st, h) := az_wp_iff
theorem az_s147_90 {x : Int32} : az_p147 C Q (90, lv, [.int x], h) ↔ Q (some (.int x)) h := az_wp_iff
theorem az_s147_91 : az_p147 C Q (91, lv, st, h) ↔ az_ma (lv 0) (fun x => az_p147 C Q (92, lv, x :: st, h)) := az_wp_iff.trans az_go_lda
theorem az_s147_92 {a : Nat} : az_p147 C Q (92, lv, .ref a :: st, h) ↔ az_mf (h.1 a) 11 34 (fun v => az_p147 C Q (95, lv, v :: st, h)) := az_wp_iff.trans az_go_gf
theorem az_s147_95 : az_p147 C Q (95, lv, st, h) ↔ az_ma (lv 0) (fun x => az_p147 C Q (96, lv, x :: st, h)) := az_wp_iff.trans az_go_lda
theorem az_s147_96 {a : Nat} : az_p147 C Q (96, lv, .ref a :: st, h) ↔ az_mf (h.1 a) 11 33 (fun v => az_p147 C Q (99, lv, v :: st, h)) := az_wp_iff.trans az_go_gf
theorem az_s147_99 : az_p147 C Q (99, lv, st, h) ↔ az_mi (lv 2) (fun x => az_p147 C Q (100, lv, .int x :: st, h)) := az_wp_iff.trans az_go_ldi
theorem az_s147_100 {x : Int32} : az_p147 C Q (100, lv, .int x :: st, h) ↔ az_p147 C Q (101, lv, .long x.toInt64 :: st, h) := az_wp_iff
theorem az_s147_101 {a : Nat} {i : Int32} {x : Int64} : az_p147 C Q (101, lv, .long x :: .int i :: .ref a :: st, h) ↔ az_mwl (h.1 a) i.toInt x (fun c => az_p147 C Q (102, lv, st, az_uh h a c)) := az_wp_iff.trans az_go_las
theorem az_s147_102 : az_p147 C Q (102, lv, st, h) ↔ az_ma (lv 0) (fun x => az_p147 C Q (103, lv, x :: st, h)) := az_wp_iff.trans az_go_lda
theorem az_s147_103 {a : Nat} : az_p147 C Q (103, lv, .ref a :: st, h) ↔ az_mf (h.1 a) 11 35 (fun v => az_p147 C Q (106, lv, v :: st, h)) := az_wp_iff.trans az_go_gf
theorem az_s147_106 : az_p147 C Q (106, lv, st, h) ↔ az_ma (lv 0) (fun x => az_p147 C Q (107, lv, x :: st, h)) := az_wp_iff.trans az_go_lda
theorem az_s147_107 {a : Nat} : az_p147 C Q (107, lv, .ref a :: st, h) ↔ az_mf (h.1 a) 11 33 (fun v => az_p147 C Q (110, lv, v :: st, h)) := az_wp_iff.trans az_go_gf
theorem az_s147_110 : az_p147 C Q (110, lv, st, h) ↔ az_mi (lv 3) (fun x => az_p147 C Q (111, lv, .int x :: st, h)) := az_wp_iff.trans az_go_ldi
theorem az_s147_111 {a : Nat} {i x : Int32} : az_p147 C Q (111, lv, .int x :: .int i :: .ref a :: st, h) ↔ az_mw' (h.1 a) i.toInt x (fun c => az_p147 C Q (112, lv, st, az_uh h a c)) := az_wp_iff.trans az_go_ias
theorem az_s147_112 : az_p147 C Q (112, lv, st, h) ↔ az_ma (lv 0) (fun x => az_p147 C Q (113, lv, x :: st, h)) := az_wp_iff.trans az_go_lda
theorem az_s147_113 {a : Nat} : az_p147 C Q (113, lv, .ref a :: st, h) ↔ az_mf (h.1 a) 11 36 (fun v => az_p147 C Q (116, lv, v :: st, h)) := az_wp_iff.trans az_go_gf
theorem az_s147_116 : az_p147 C Q (116, lv, st, h) ↔ az_ma (lv 0) (fun x => az_p147 C Q (117, lv, x :: st, h)) := az_wp_iff.trans az_go_lda
theorem az_s147_117 {a : Nat} : az_p147 C Q (117, lv, .ref a :: st, h) ↔ az_mf (h.1 a) 11 33 (fun v => az_p147 C Q (120, lv, v :: st, h)) := az_wp_iff.trans az_go_gf
theorem az_s147_120 : az_p147 C Q (120, lv, st, h) ↔ az_mi (lv 4) (fun x => az_p147 C Q (122, lv, .int x :: st, h)) := az_wp_iff.trans az_go_ldi
theorem az_s147_122 {a : Nat} {i x : Int32} : az_p147 C Q (122, lv, .int x :: .int i :: .ref a :: st, h) ↔ az_mw' (h.1 a) i.toInt x (fun c => az_p147 C Q (123, lv, st, az_uh h a c)) := az_wp_iff.trans az_go_ias
theorem az_s147_123 : az_p147 C Q (123, lv, st, h) ↔ az_p147 C Q (124, lv, .int (Int32.ofInt (0)) :: st, h) := az_wp_iff
theorem az_s147_124 {x : Int32} : az_p147 C Q (124, lv, .int x :: st, h) ↔ az_p147 C Q (126, (az_s1 lv 6 (.int x)), st, h) := az_wp_iff
theorem az_s147_126 : az_p147 C Q (126, lv, st, h) ↔ az_mi (lv 6) (fun x => az_p147 C Q (128, lv, .int x :: st, h)) := az_wp_iff.trans az_go_ldi
theorem az_s147_128 : az_p147 C Q (128, lv, st, h) ↔ az_p147 C Q (129, lv, .int (Int32.ofInt (4)) :: st, h) := az_wp_iff
theorem az_s147_129 {x y : Int32} : az_p147 C Q (129, lv, .int y :: .int x :: st, h) ↔ (y ≤ x → az_p147 C Q (165, lv, st, h)) ∧ (¬ y ≤ x → az_p147 C Q (132, lv, st, h)) := az_wp_iff.trans (az_go_if2 az_d_eq)
theorem az_s147_132 : az_p147 C Q (132, lv, st, h) ↔ az_ma (lv 0) (fun x => az_p147 C Q (133, lv, x :: st, h)) := az_wp_iff.trans az_go_lda
theorem az_s147_133 {a : Nat} : az_p147 C Q (133, lv, .ref a :: st, h) ↔ az_mf (h.1 a) 11 37 (fun v => az_p147 C Q (136, lv, v :: st, h)) := az_wp_iff.trans az_go_gf
theorem az_s147_136 : az_p147 C Q (136, lv, st, h) ↔ az_p147 C Q (137, lv, .int (Int32.ofInt (4)) :: st, h) := az_wp_iff
theorem az_s147_137 : az_p147 C Q (137, lv, st, h) ↔ az_ma (lv 0) (fun x => az_p147 C Q (138, lv, x :: st, h)) := az_wp_iff.trans az_go_lda
theorem az_s147_138 {a : Nat} : az_p147 C Q (138, lv, .ref a :: st, h) ↔ az_mf (h.1 a) 11 33 (fun v => az_p147 C Q (141, lv, v :: st, h)) := az_wp_iff.trans az_go_gf
theorem az_s147_141 {x y : Int32} : az_p147 C Q (141, lv, .int y :: .int x :: st, h) ↔ az_p147 C Q (142, lv, .int (x * y) :: st, h) := az_wp_iff
theorem az_s147_142 : az_p147 C Q (142, lv, st, h) ↔ az_mi (lv 6) (fun x => az_p147 C Q (144, lv, .int x :: st, h)) := az_wp_iff.trans az_go_ldi
theorem az_s147_144 {x y : Int32} : az_p147 C Q (144, lv, .int y :: .int x :: st, h) ↔ az_p147 C Q (145, lv, .int (x + y) :: st, h) := az_wp_iff
theorem az_s147_145 : az_p147 C Q (145, lv, st, h) ↔ az_mi (lv 6) (fun x => az_p147 C Q (147, lv, .int x :: st, h)) := az_wp_iff.trans az_go_ldi
theorem az_s147_147 : az_p147 C Q (147, lv, st, h) ↔ az_mi (lv 5) (fun x => az_p147 C Q (149, lv, .int x :: st, h)) := az_wp_iff.trans az_go_ldi
theorem az_s147_149 {x y : Int32} : az_p147 C Q (149, lv, .int y :: .int x :: st, h) ↔ (¬ x = y → az_p147 C Q (157, lv, st, h)) ∧ (¬ ¬ x = y → az_p147 C Q (152, lv, st, h)) := az_wp_iff.trans (az_go_if2 az_d_eq)
theorem az_s147_152 : az_p147 C Q (152, lv, st, h) ↔ az_p147 C Q (154, lv, .int (Int32.ofInt (1000000)) :: st, h) := az_wp_iff
theorem az_s147_154 : az_p147 C Q (154, lv, st, h) ↔ az_p147 C Q (158, lv, st, h) := az_wp_iff
theorem az_s147_157 : az_p147 C Q (157, lv, st, h) ↔ az_p147 C Q (158, lv, .int (Int32.ofInt (0)) :: st, h) := az_wp_iff
theorem az_s147_158 {a : Nat} {i x : Int32} : az_p147 C Q (158, lv, .int x :: .int i :: .ref a :: st, h) ↔ az_mw' (h.1 a) i.toInt x (fun c => az_p147 C Q (159, lv, st, az_uh h a c)) := az_wp_iff.trans az_go_ias
theorem az_s147_159 : az_p147 C Q (159, lv, st, h) ↔ az_mi (lv 6) (fun x => az_p147 C Q (162, (az_s1 lv 6 (.int (x + Int32.ofInt (1)))), st, h)) := az_wp_iff.trans az_go_inc
theorem az_s147_162 : az_p147 C Q (162, lv, st, h) ↔ az_p147 C Q (126, lv, st, h) := az_wp_iff
theorem az_s147_165 : az_p147 C Q (165, lv, st, h) ↔ az_ma (lv 0) (fun x => az_p147 C Q (166, lv, x :: st, h)) := az_wp_iff.trans az_go_lda
theorem az_s147_166 {x : Int32} : az_p147 C Q (166, lv, .int x :: st, h) ↔ az_p147 C Q (167, lv, .int x :: .int x :: st, h) := az_wp_iff
theorem az_s147_166r {x : Nat} : az_p147 C Q (166, lv, .ref x :: st, h) ↔ az_p147 C Q (167, lv, .ref x :: .ref x :: st, h) := az_wp_iff
theorem az_s147_167 {a : Nat} : az_p147 C Q (167, lv, .ref a :: st, h) ↔ az_mf (h.1 a) 11 48 (fun v => az_p147 C Q (170, lv, v :: st, h)) := az_wp_iff.trans az_go_gf
theorem az_s147_170 : az_p147 C Q (170, lv, st, h) ↔ az_mi (lv 2) (fun x => az_p147 C Q (171, lv, .int x :: st, h)) := az_wp_iff.trans az_go_ldi
theorem az_s147_171 {x : Int32} : az_p147 C Q (171, lv, .int x :: st, h) ↔ az_p147 C Q (172, lv, .long x.toInt64 :: st, h) := az_wp_iff
theorem az_s147_172 {x y : Int64} : az_p147 C Q (172, lv, .long y :: .long x :: st, h) ↔ az_p147 C Q (173, lv, .long (x + y) :: st, h) := az_wp_iff
theorem az_s147_173 {a : Nat} {v : Value} : az_p147 C Q (173, lv, v :: .ref a :: st, h) ↔ az_mp (h.1 a) 11 48 1 v (fun c => az_p147 C Q (176, lv, st, az_uh h a c)) := az_wp_iff.trans az_go_pf
theorem az_s147_176 : az_p147 C Q (176, lv, st, h) ↔ az_ma (lv 0) (fun x => az_p147 C Q (177, lv, x :: st, h)) := az_wp_iff.trans az_go_lda
theorem az_s147_177 : az_p147 C Q (177, lv, st, h) ↔ az_mi (lv 1) (fun x => az_p147 C Q (178, lv, .int x :: st, h)) := az_wp_iff.trans az_go_ldi
theorem az_s147_178 : az_p147 C Q (178, lv, st, h) ↔ az_ma (lv 0) (fun x => az_p147 C Q (179, lv, x :: st, h)) := az_wp_iff.trans az_go_lda
theorem az_s147_179 {a : Nat} : az_p147 C Q (179, lv, .ref a :: st, h) ↔ az_mf (h.1 a) 11 33 (fun v => az_p147 C Q (182, lv, v :: st, h)) := az_wp_iff.trans az_go_gf
theorem az_s147_182 {a : Nat} {v1 v2 : Value} : az_p147 C Q (182, lv, v2 :: v1 :: .ref a :: st, h) ↔ az_isob (h.1 a) 11 = true ∧ az_cat st ≤ 8 ∧ az_mc C 148 [.ref a, v1, v2] h (fun v h' => az_p147 C Q (185, lv, v ++ st, h')) := az_wp_iff.trans (az_go_if.trans (and_congr Iff.rfl az_go_call))
theorem az_s147_185 : az_p147 C Q (185, lv, st, h) ↔ az_ma (lv 0) (fun x => az_p147 C Q (186, lv, x :: st, h)) := az_wp_iff.trans az_go_lda
theorem az_s147_186 {x : Int32} : az_p147 C Q (186, lv, .int x :: st, h) ↔ az_p147 C Q (187, lv, .int x :: .int x :: st, h) := az_wp_iff
theorem az_s147_186r {x : Nat} : az_p147 C Q (186, lv, .ref x :: st, h) ↔ az_p147 C Q (187, lv, .ref x :: .ref x :: st, h) := az_wp_iff
theorem az_s147_187 {a : Nat} : az_p147 C Q (187, lv, .ref a :: st, h) ↔ az_mf (h.1 a) 11 33 (fun v => az_p147 C Q (190, lv, v :: st, h)) := az_wp_iff.trans az_go_gf
theorem az_s147_190 : az_p147 C Q (190, lv, st, h) ↔ az_p147 C Q (191, lv, .int (Int32.ofInt (1)) :: st, h) := az_wp_iff
theorem az_s147_191 {x y : Int32} : az_p147 C Q (191, lv, .int y :: .int x :: st, h) ↔ az_p147 C Q (192, lv, .int (x + y) :: st, h) := az_wp_iff
theorem az_s147_192 {a : Nat} {v : Value} : az_p147 C Q (192, lv, v :: .ref a :: st, h) ↔ az_mp (h.1 a) 11 33 0 v (fun c => az_p147 C Q (195, lv, st, az_uh h a c)) := az_wp_iff.trans az_go_pf
theorem az_s147_195 : az_p147 C Q (195, lv, st, h) ↔ az_ma (lv 0) (fun x => az_p147 C Q (196, lv, x :: st, h)) := az_wp_iff.trans az_go_lda
theorem az_s147_196 {a : Nat} : az_p147 C Q (196, lv, .ref a :: st, h) ↔ az_mf (h.1 a) 11 33 (fun v => az_p147 C Q (199, lv, v :: st, h)) := az_wp_iff.trans az_go_gf
theorem az_s147_199 : az_p147 C Q (199, lv, st, h) ↔ az_p147 C Q (200, lv, .int (Int32.ofInt (1)) :: st, h) := az_wp_iff
theorem az_s147_200 {x y : Int32} : az_p147 C Q (200, lv, .int y :: .int x :: st, h) ↔ az_p147 C Q (201, lv, .int (x - y) :: st, h) := az_wp_iff
theorem az_s147_201 {x : Int32} : az_p147 C Q (201, lv, [.int x], h) ↔ Q (some (.int x)) h := az_wp_iff
def az_p148 (C : az_Cl) (Q : Option Value → az_H → Prop) : az_S → Prop := az_wp C (fun _ => none) none (az_fn az_k148) Q
theorem az_s148_0 : az_p148 C Q (0, lv, st, h) ↔ az_ma (lv 0) (fun x => az_p148 C Q (1, lv, x :: st, h)) := az_wp_iff.trans az_go_lda
theorem az_s148_1 {a : Nat} : az_p148 C Q (1, lv, .ref a :: st, h) ↔ az_mf (h.1 a) 11 5 (fun v => az_p148 C Q (4, lv, v :: st, h)) := az_wp_iff.trans az_go_gf
theorem az_s148_4 : az_p148 C Q (4, lv, st, h) ↔ az_p148 C Q (6, lv, .int (Int32.ofInt (40)) :: st, h) := az_wp_iff
theorem az_s148_6 : az_p148 C Q (6, lv, st, h) ↔ az_mi (lv 1) (fun x => az_p148 C Q (7, lv, .int x :: st, h)) := az_wp_iff.trans az_go_ldi
theorem az_s148_7 {x y : Int32} : az_p148 C Q (7, lv, .int y :: .int x :: st, h) ↔ az_p148 C Q (8, lv, .int (x * y) :: st, h) := az_wp_iff
theorem az_s148_8 : az_p148 C Q (8, lv, st, h) ↔ az_ma (lv 0) (fun x => az_p148 C Q (9, lv, x :: st, h)) := az_wp_iff.trans az_go_lda
theorem az_s148_9 {a : Nat} : az_p148 C Q (9, lv, .ref a :: st, h) ↔ az_mf (h.1 a) 11 4 (fun v => az_p148 C Q (12, lv, v :: st, h)) := az_wp_iff.trans az_go_gf
theorem az_s148_12 : az_p148 C Q (12, lv, st, h) ↔ az_mi (lv 1) (fun x => az_p148 C Q (13, lv, .int x :: st, h)) := az_wp_iff.trans az_go_ldi
theorem az_s148_13 {a : Nat} {i : Int32} : az_p148 C Q (13, lv, .int i :: .ref a :: st, h) ↔ az_mr (h.1 a) 0 i.toInt (fun x => az_p148 C Q (14, lv, .int x :: st, h)) := az_wp_iff.trans az_go_ial
theorem az_s148_14 {x y : Int32} : az_p148 C Q (14, lv, .int y :: .int x :: st, h) ↔ az_p148 C Q (15, lv, .int (x + y) :: st, h) := az_wp_iff
theorem az_s148_15 : az_p148 C Q (15, lv, st, h) ↔ az_mi (lv 2) (fun x => az_p148 C Q (16, lv, .int x :: st, h)) := az_wp_iff.trans az_go_ldi
theorem az_s148_16 {a : Nat} {i x : Int32} : az_p148 C Q (16, lv, .int x :: .int i :: .ref a :: st, h) ↔ az_mw' (h.1 a) i.toInt x (fun c => az_p148 C Q (17, lv, st, az_uh h a c)) := az_wp_iff.trans az_go_ias
theorem az_s148_17 : az_p148 C Q (17, lv, st, h) ↔ az_ma (lv 0) (fun x => az_p148 C Q (18, lv, x :: st, h)) := az_wp_iff.trans az_go_lda
theorem az_s148_18 {a : Nat} : az_p148 C Q (18, lv, .ref a :: st, h) ↔ az_mf (h.1 a) 11 4 (fun v => az_p148 C Q (21, lv, v :: st, h)) := az_wp_iff.trans az_go_gf
theorem az_s148_21 : az_p148 C Q (21, lv, st, h) ↔ az_mi (lv 1) (fun x => az_p148 C Q (22, lv, .int x :: st, h)) := az_wp_iff.trans az_go_ldi
theorem az_s148_22 {x : Int32} {y : Nat} : az_p148 C Q (22, lv, .int x :: .ref y :: st, h) ↔ az_p148 C Q (23, lv, .int x :: .ref y :: .int x :: .ref y :: st, h) := az_wp_iff
theorem az_s148_22l {x : Int64} : az_p148 C Q (22, lv, .long x :: st, h) ↔ az_p148 C Q (23, lv, .long x :: .long x :: st, h) := az_wp_iff
theorem az_s148_23 {a : Nat} {i : Int32} : az_p148 C Q (23, lv, .int i :: .ref a :: st, h) ↔ az_mr (h.1 a) 0 i.toInt (fun x => az_p148 C Q (24, lv, .int x :: st, h)) := az_wp_iff.trans az_go_ial
theorem az_s148_24 : az_p148 C Q (24, lv, st, h) ↔ az_p148 C Q (25, lv, .int (Int32.ofInt (1)) :: st, h) := az_wp_iff
theorem az_s148_25 {x y : Int32} : az_p148 C Q (25, lv, .int y :: .int x :: st, h) ↔ az_p148 C Q (26, lv, .int (x + y) :: st, h) := az_wp_iff
theorem az_s148_26 {a : Nat} {i x : Int32} : az_p148 C Q (26, lv, .int x :: .int i :: .ref a :: st, h) ↔ az_mw' (h.1 a) i.toInt x (fun c => az_p148 C Q (27, lv, st, az_uh h a c)) := az_wp_iff.trans az_go_ias
theorem az_s148_27 : az_p148 C Q (27, lv, [], h) ↔ Q none h := az_wp_iff
def az_p149 (C : az_Cl) (Q : Option Value → az_H → Prop) : az_S → Prop := az_wp C (fun _ => none) (some .int) (az_fn az_k149) Q
theorem az_s149_0 : az_p149 C Q (0, lv, st, h) ↔ az_ma (lv 0) (fun x => az_p149 C Q (1, lv, x :: st, h)) := az_wp_iff.trans az_go_lda
theorem az_s149_1 {a : Nat} : az_p149 C Q (1, lv, .ref a :: st, h) ↔ az_mf (h.1 a) 11 5 (fun v => az_p149 C Q (4, lv, v :: st, h)) := az_wp_iff.trans az_go_gf
theorem az_s149_4 : az_p149 C Q (4, lv, st, h) ↔ az_p149 C Q (6, lv, .int (Int32.ofInt (40)) :: st, h) := az_wp_iff
theorem az_s149_6 : az_p149 C Q (6, lv, st, h) ↔ az_mi (lv 1) (fun x => az_p149 C Q (7, lv, .int x :: st, h)) := az_wp_iff.trans az_go_ldi
theorem az_s149_7 {x y : Int32} : az_p149 C Q (7, lv, .int y :: .int x :: st, h) ↔ az_p149 C Q (8, lv, .int (x * y) :: st, h) := az_wp_iff
theorem az_s149_8 {a : Nat} {i : Int32} : az_p149 C Q (8, lv, .int i :: .ref a :: st, h) ↔ az_mr (h.1 a) 0 i.toInt (fun x => az_p149 C Q (9, lv, .int x :: st, h)) := az_wp_iff.trans az_go_ial
theorem az_s149_9 {x : Int32} : az_p149 C Q (9, lv, .int x :: st, h) ↔ az_p149 C Q (10, (az_s1 lv 2 (.int x)), st, h) := az_wp_iff
theorem az_s149_10 : az_p149 C Q (10, lv, st, h) ↔ az_ma (lv 0) (fun x => az_p149 C Q (11, lv, x :: st, h)) := az_wp_iff.trans az_go_lda
theorem az_s149_11 {a : Nat} : az_p149 C Q (11, lv, .ref a :: st, h) ↔ az_mf (h.1 a) 11 4 (fun v => az_p149 C Q (14, lv, v :: st, h)) := az_wp_iff.trans az_go_gf
theorem az_s149_14 : az_p149 C Q (14, lv, st, h) ↔ az_mi (lv 1) (fun x => az_p149 C Q (15, lv, .int x :: st, h)) := az_wp_iff.trans az_go_ldi
theorem az_s149_15 {x : Int32} {y : Nat} : az_p149 C Q (15, lv, .int x :: .ref y :: st, h) ↔ az_p149 C Q (16, lv, .int x :: .ref y :: .int x :: .ref y :: st, h) := az_wp_iff
theorem az_s149_15l {x : Int64} : az_p149 C Q (15, lv, .long x :: st, h) ↔ az_p149 C Q (16, lv, .long x :: .long x :: st, h) := az_wp_iff
theorem az_s149_16 {a : Nat} {i : Int32} : az_p149 C Q (16, lv, .int i :: .ref a :: st, h) ↔ az_mr (h.1 a) 0 i.toInt (fun x => az_p149 C Q (17, lv, .int x :: st, h)) := az_wp_iff.trans az_go_ial
theorem az_s149_17 : az_p149 C Q (17, lv, st, h) ↔ az_p149 C Q (18, lv, .int (Int32.ofInt (1)) :: st, h) := az_wp_iff
theorem az_s149_18 {x y : Int32} : az_p149 C Q (18, lv, .int y :: .int x :: st, h) ↔ az_p149 C Q (19, lv, .int (x - y) :: st, h) := az_wp_iff
theorem az_s149_19 {a : Nat} {i x : Int32} : az_p149 C Q (19, lv, .int x :: .int i :: .ref a :: st, h) ↔ az_mw' (h.1 a) i.toInt x (fun c => az_p149 C Q (20, lv, st, az_uh h a c)) := az_wp_iff.trans az_go_ias
theorem az_s149_20 : az_p149 C Q (20, lv, st, h) ↔ az_p149 C Q (21, lv, .int (Int32.ofInt (0)) :: st, h) := az_wp_iff
theorem az_s149_21 {x : Int32} : az_p149 C Q (21, lv, .int x :: st, h) ↔ az_p149 C Q (22, (az_s1 lv 3 (.int x)), st, h) := az_wp_iff
theorem az_s149_22 : az_p149 C Q (22, lv, st, h) ↔ az_mi (lv 3) (fun x => az_p149 C Q (23, lv, .int x :: st, h)) := az_wp_iff.trans az_go_ldi
theorem az_s149_23 : az_p149 C Q (23, lv, st, h) ↔ az_ma (lv 0) (fun x => az_p149 C Q (24, lv, x :: st, h)) := az_wp_iff.trans az_go_lda
theorem az_s149_24 {a : Nat} : az_p149 C Q (24, lv, .ref a :: st, h) ↔ az_mf (h.1 a) 11 4 (fun v => az_p149 C Q (27, lv, v :: st, h)) := az_wp_iff.trans az_go_gf
theorem az_s149_27 : az_p149 C Q (27, lv, st, h) ↔ az_mi (lv 1) (fun x => az_p149 C Q (28, lv, .int x :: st, h)) := az_wp_iff.trans az_go_ldi
theorem az_s149_28 {a : Nat} {i : Int32} : az_p149 C Q (28, lv, .int i :: .ref a :: st, h) ↔ az_mr (h.1 a) 0 i.toInt (fun x => az_p149 C Q (29, lv, .int x :: st, h)) := az_wp_iff.trans az_go_ial
theorem az_s149_29 {x y : Int32} : az_p149 C Q (29, lv, .int y :: .int x :: st, h) ↔ (y ≤ x → az_p149 C Q (62, lv, st, h)) ∧ (¬ y ≤ x → az_p149 C Q (32, lv, st, h)) := az_wp_iff.trans (az_go_if2 az_d_eq)
theorem az_s149_32 : az_p149 C Q (32, lv, st, h) ↔ az_ma (lv 0) (fun x => az_p149 C Q (33, lv, x :: st, h)) := az_wp_iff.trans az_go_lda
theorem az_s149_33 {a : Nat} : az_p149 C Q (33, lv, .ref a :: st, h) ↔ az_mf (h.1 a) 11 5 (fun v => az_p149 C Q (36, lv, v :: st, h)) := az_wp_iff.trans az_go_gf
theorem az_s149_36 : az_p149 C Q (36, lv, st, h) ↔ az_p149 C Q (38, lv, .int (Int32.ofInt (40)) :: st, h) := az_wp_iff
theorem az_s149_38 : az_p149 C Q (38, lv, st, h) ↔ az_mi (lv 1) (fun x => az_p149 C Q (39, lv, .int x :: st, h)) := az_wp_iff.trans az_go_ldi
theorem az_s149_39 {x y : Int32} : az_p149 C Q (39, lv, .int y :: .int x :: st, h) ↔ az_p149 C Q (40, lv, .int (x * y) :: st, h) := az_wp_iff
theorem az_s149_40 : az_p149 C Q (40, lv, st, h) ↔ az_mi (lv 3) (fun x => az_p149 C Q (41, lv, .int x :: st, h)) := az_wp_iff.trans az_go_ldi
theorem az_s149_41 {x y : Int32} : az_p149 C Q (41, lv, .int y :: .int x :: st, h) ↔ az_p149 C Q (42, lv, .int (x + y) :: st, h) := az_wp_iff
theorem az_s149_42 : az_p149 C Q (42, lv, st, h) ↔ az_ma (lv 0) (fun x => az_p149 C Q (43, lv, x :: st, h)) := az_wp_iff.trans az_go_lda
theorem az_s149_43 {a : Nat} : az_p149 C Q (43, lv, .ref a :: st, h) ↔ az_mf (h.1 a) 11 5 (fun v => az_p149 C Q (46, lv, v :: st, h)) := az_wp_iff.trans az_go_gf
theorem az_s149_46 : az_p149 C Q (46, lv, st, h) ↔ az_p149 C Q (48, lv, .int (Int32.ofInt (40)) :: st, h) := az_wp_iff
theorem az_s149_48 : az_p149 C Q (48, lv, st, h) ↔ az_mi (lv 1) (fun x => az_p149 C Q (49, lv, .int x :: st, h)) := az_wp_iff.trans az_go_ldi
theorem az_s149_49 {x y : Int32} : az_p149 C Q (49, lv, .int y :: .int x :: st, h) ↔ az_p149 C Q (50, lv, .int (x * y) :: st, h) := az_wp_iff
theorem az_s149_50 : az_p149 C Q (50, lv, st, h) ↔ az_mi (lv 3) (fun x => az_p149 C Q (51, lv, .int x :: st, h)) := az_wp_iff.trans az_go_ldi
theorem az_s149_51 {x y : Int32} : az_p149 C Q (51, lv, .int y :: .int x :: st, h) ↔ az_p149 C Q (52, lv, .int (x + y) :: st, h) := az_wp_iff
theorem az_s149_52 : az_p149 C Q (52, lv, st, h) ↔ az_p149 C Q (53, lv, .int (Int32.ofInt (1)) :: st, h) := az_wp_iff
theorem az_s149_53 {x y : Int32} : az_p149 C Q (53, lv, .int y :: .int x :: st, h) ↔ az_p149 C Q (54, lv, .int (x + y) :: st, h) := az_wp_iff
theorem az_s149_54 {a : Nat} {i : Int32} : az_p149 C Q (54, lv, .int i :: .ref a :: st, h) ↔ az_mr (h.1 a) 0 i.toInt (fun x => az_p149 C Q (55, lv, .int x :: st, h)) := az_wp_iff.trans az_go_ial
theorem az_s149_55 {a : Nat} {i x : Int32} : az_p149 C Q (55, lv, .int x :: .int i :: .ref a :: st, h) ↔ az_mw' (h.1 a) i.toInt x (fun c => az_p149 C Q (56, lv, st, az_uh h a c)) := az_wp_iff.trans az_go_ias
theorem az_s149_56 : az_p149 C Q (56, lv, st, h) ↔ az_mi (lv 3) (fun x => az_p149 C Q (59, (az_s1 lv 3 (.int (x + Int32.ofInt (1)))), st, h)) := az_wp_iff.trans az_go_inc
theorem az_s149_59 : az_p149 C Q (59, lv, st, h) ↔ az_p149 C Q (22, lv, st, h) := az_wp_iff
theorem az_s149_62 : az_p149 C Q (62, lv, st, h) ↔ az_mi (lv 2) (fun x => az_p149 C Q (63, lv, .int x :: st, h)) := az_wp_iff.trans az_go_ldi
theorem az_s149_63 {x : Int32} : az_p149 C Q (63, lv, [.int x], h) ↔ Q (some (.int x)) h := az_wp_iff
def az_p150 (C : az_Cl) (Q : Option Value → az_H → Prop) : az_S → Prop := az_wp C (fun _ => none) none (az_fn az_k150) Q
theorem az_s150_0 : az_p150 C Q (0, lv, st, h) ↔ az_ma (lv 0) (fun x => az_p150 C Q (1, lv, x :: st, h)) := az_wp_iff.trans az_go_lda
theorem az_s150_1 {a : Nat} : az_p150 C Q (1, lv, .ref a :: st, h) ↔ az_mf (h.1 a) 11 4 (fun v => az_p150 C Q (4, lv, v :: st, h)) := az_wp_iff.trans az_go_gf
theorem az_s150_4 : az_p150 C Q (4, lv, st, h) ↔ az_mi (lv 1) (fun x => az_p150 C Q (5, lv, .int x :: st, h)) := az_wp_iff.trans az_go_ldi
theorem az_s150_5 {a : Nat} {i : Int32} : az_p150 C Q (5, lv, .int i :: .ref a :: st, h) ↔ az_mr (h.1 a) 0 i.toInt (fun x => az_p150 C Q (6, lv, .int x :: st, h)) := az_wp_iff.trans az_go_ial
theorem az_s150_6 {x : Int32} : az_p150 C Q (6, lv, .int x :: st, h) ↔ az_p150 C Q (7, (az_s1 lv 3 (.int x)), st, h) := az_wp_iff
theorem az_s150_7 : az_p150 C Q (7, lv, st, h) ↔ az_mi (lv 3) (fun x => az_p150 C Q (8, lv, .int x :: st, h)) := az_wp_iff.trans az_go_ldi
theorem az_s150_8 {x : Int32} : az_p150 C Q (8, lv, .int x :: st, h) ↔ (x ≤ 0 → az_p150 C Q (41, lv, st, h)) ∧ (¬ x ≤ 0 → az_p150 C Q (11, lv, st, h)) := az_wp_iff.trans (az_go_if1 az_d_eq)
theorem az_s150_11 : az_p150 C Q (11, lv, st, h) ↔ az_ma (lv 0) (fun x => az_p150 C Q (12, lv, x :: st, h)) := az_wp_iff.trans az_go_lda
theorem az_s150_12 {a : Nat} : az_p150 C Q (12, lv, .ref a :: st, h) ↔ az_mf (h.1 a) 11 5 (fun v => az_p150 C Q (15, lv, v :: st, h)) := az_wp_iff.trans az_go_gf
theorem az_s150_15 : az_p150 C Q (15, lv, st, h) ↔ az_p150 C Q (17, lv, .int (Int32.ofInt (40)) :: st, h) := az_wp_iff
theorem az_s150_17 : az_p150 C Q (17, lv, st, h) ↔ az_mi (lv 1) (fun x => az_p150 C Q (18, lv, .int x :: st, h)) := az_wp_iff.trans az_go_ldi
theorem az_s150_18 {x y : Int32} : az_p150 C Q (18, lv, .int y :: .int x :: st, h) ↔ az_p150 C Q (19, lv, .int (x * y) :: st, h) := az_wp_iff
theorem az_s150_19 : az_p150 C Q (19, lv, st, h) ↔ az_mi (lv 3) (fun x => az_p150 C Q (20, lv, .int x :: st, h)) := az_wp_iff.trans az_go_ldi
theorem az_s150_20 {x y : Int32} : az_p150 C Q (20, lv, .int y :: .int x :: st, h) ↔ az_p150 C Q (21, lv, .int (x + y) :: st, h) := az_wp_iff
theorem az_s150_21 : az_p150 C Q (21, lv, st, h) ↔ az_ma (lv 0) (fun x => az_p150 C Q (22, lv, x :: st, h)) := az_wp_iff.trans az_go_lda
theorem az_s150_22 {a : Nat} : az_p150 C Q (22, lv, .ref a :: st, h) ↔ az_mf (h.1 a) 11 5 (fun v => az_p150 C Q (25, lv, v :: st, h)) := az_wp_iff.trans az_go_gf
theorem az_s150_25 : az_p150 C Q (25, lv, st, h) ↔ az_p150 C Q (27, lv, .int (Int32.ofInt (40)) :: st, h) := az_wp_iff
theorem az_s150_27 : az_p150 C Q (27, lv, st, h) ↔ az_mi (lv 1) (fun x => az_p150 C Q (28, lv, .int x :: st, h)) := az_wp_iff.trans az_go_ldi
theorem az_s150_28 {x y : Int32} : az_p150 C Q (28, lv, .int y :: .int x :: st, h) ↔ az_p150 C Q (29, lv, .int (x * y) :: st, h) := az_wp_iff
theorem az_s150_29 : az_p150 C Q (29, lv, st, h) ↔ az_mi (lv 3) (fun x => az_p150 C Q (30, lv, .int x :: st, h)) := az_wp_iff.trans az_go_ldi
theorem az_s150_30 {x y : Int32} : az_p150 C Q (30, lv, .int y :: .int x :: st, h) ↔ az_p150 C Q (31, lv, .int (x + y) :: st, h) := az_wp_iff
theorem az_s150_31 : az_p150 C Q (31, lv, st, h) ↔ az_p150 C Q (32, lv, .int (Int32.ofInt (1)) :: st, h) := az_wp_iff
theorem az_s150_32 {x y : Int32} : az_p150 C Q (32, lv, .int y :: .int x :: st, h) ↔ az_p150 C Q (33, lv, .int (x - y) :: st, h) := az_wp_iff
theorem az_s150_33 {a : Nat} {i : Int32} : az_p150 C Q (33, lv, .int i :: .ref a :: st, h) ↔ az_mr (h.1 a) 0 i.toInt (fun x => az_p150 C Q (34, lv, .int x :: st, h)) := az_wp_iff.trans az_go_ial
theorem az_s150_34 {a : Nat} {i x : Int32} : az_p150 C Q (34, lv, .int x :: .int i :: .ref a :: st, h) ↔ az_mw' (h.1 a) i.toInt x (fun c => az_p150 C Q (35, lv, st, az_uh h a c)) := az_wp_iff.trans az_go_ias
theorem az_s150_35 : az_p150 C Q (35, lv, st, h) ↔ az_mi (lv 3) (fun x => az_p150 C Q (38, (az_s1 lv 3 (.int (x + Int32.ofInt (-1)))), st, h)) := az_wp_iff.trans az_go_inc
theorem az_s150_38 : az_p150 C Q (38, lv, st, h) ↔ az_p150 C Q (7, lv, st, h) := az_wp_iff
theorem az_s150_41 : az_p150 C Q (41, lv, st, h) ↔ az_ma (lv 0) (fun x => az_p150 C Q (42, lv, x :: st, h)) := az_wp_iff.trans az_go_lda
theorem az_s150_42 {a : Nat} : az_p150 C Q (42, lv, .ref a :: st, h) ↔ az_mf (h.1 a) 11 5 (fun v => az_p150 C Q (45, lv, v :: st, h)) := az_wp_iff.trans az_go_gf
theorem az_s150_45 : az_p150 C Q (45, lv, st, h) ↔ az_p150 C Q (47, lv, .int (Int32.ofInt (40)) :: st, h) := az_wp_iff
theorem az_s150_47 : az_p150 C Q (47, lv, st, h) ↔ az_mi (lv 1) (fun x => az_p150 C Q (48, lv, .int x :: st, h)) := az_wp_iff.trans az_go_ldi
theorem az_s150_48 {x y : Int32} : az_p150 C Q (48, lv, .int y :: .int x :: st, h) ↔ az_p150 C Q (49, lv, .int (x * y) :: st, h) := az_wp_iff
theorem az_s150_49 : az_p150 C Q (49, lv, st, h) ↔ az_mi (lv 2) (fun x => az_p150 C Q (50, lv, .int x :: st, h)) := az_wp_iff.trans az_go_ldi
theorem az_s150_50 {a : Nat} {i x : Int32} : az_p150 C Q (50, lv, .int x :: .int i :: .ref a :: st, h) ↔ az_mw' (h.1 a) i.toInt x (fun c => az_p150 C Q (51, lv, st, az_uh h a c)) := az_wp_iff.trans az_go_ias
theorem az_s150_51 : az_p150 C Q (51, lv, st, h) ↔ az_ma (lv 0) (fun x => az_p150 C Q (52, lv, x :: st, h)) := az_wp_iff.trans az_go_lda
theorem az_s150_52 {a : Nat} : az_p150 C Q (52, lv, .ref a :: st, h) ↔ az_mf (h.1 a) 11 4 (fun v => az_p150 C Q (55, lv, v :: st, h)) := az_wp_iff.trans az_go_gf
theorem az_s150_55 : az_p150 C Q (55, lv, st, h) ↔ az_mi (lv 1) (fun x => az_p150 C Q (56, lv, .int x :: st, h)) := az_wp_iff.trans az_go_ldi
theorem az_s150_56 {x : Int32} {y : Nat} : az_p150 C Q (56, lv, .int x :: .ref y :: st, h) ↔ az_p150 C Q (57, lv, .int x :: .ref y :: .int x :: .ref y :: st, h) := az_wp_iff
theorem az_s150_56l {x : Int64} : az_p150 C Q (56, lv, .long x :: st, h) ↔ az_p150 C Q (57, lv, .long x :: .long x :: st, h) := az_wp_iff
theorem az_s150_57 {a : Nat} {i : Int32} : az_p150 C Q (57, lv, .int i :: .ref a :: st, h) ↔ az_mr (h.1 a) 0 i.toInt (fun x => az_p150 C Q (58, lv, .int x :: st, h)) := az_wp_iff.trans az_go_ial
theorem az_s150_58 : az_p150 C Q (58, lv, st, h) ↔ az_p150 C Q (59, lv, .int (Int32.ofInt (1)) :: st, h) := az_wp_iff
theorem az_s150_59 {x y : Int32} : az_p150 C Q (59, lv, .int y :: .int x :: st, h) ↔ az_p150 C Q (60, lv, .int (x + y) :: st, h) := az_wp_iff
theorem az_s150_60 {a : Nat} {i x : Int32} : az_p150 C Q (60, lv, .int x :: .int i :: .ref a :: st, h) ↔ az_mw' (h.1 a) i.toInt x (fun c => az_p150 C Q (61, lv, st, az_uh h a c)) := az_wp_iff.trans az_go_ias
theorem az_s150_61 : az_p150 C Q (61, lv, [], h) ↔ Q none h := az_wp_iff
def az_p151 (C : az_Cl) (Q : Option Value → az_H → Prop) : az_S → Prop := az_wp C (fun _ => none) (some .boolean) (az_fn az_k151) Q
theorem az_s151_0 : az_p151 C Q (0, lv, st, h) ↔ az_ma (lv 0) (fun x => az_p151 C Q (1, lv, x :: st, h)) := az_wp_iff.trans az_go_lda
theorem az_s151_1 : az_p151 C Q (1, lv, st, h) ↔ az_mi (lv 1) (fun x => az_p151 C Q (2, lv, .int x :: st, h)) := az_wp_iff.trans az_go_ldi
theorem az_s151_2 {a : Nat} {v1 : Value} : az_p151 C Q (2, lv, v1 :: .ref a :: st, h) ↔ az_isob (h.1 a) 11 = true ∧ az_cat st ≤ 8 ∧ az_mc C 136 [.ref a, v1] h (fun v h' => az_p151 C Q (5, lv, v ++ st, h')) := az_wp_iff.trans (az_go_if.trans (and_congr Iff.rfl az_go_call))
theorem az_s151_5 {x : Int32} : az_p151 C Q (5, lv, .int x :: st, h) ↔ (x = 0 → az_p151 C Q (47, lv, st, h)) ∧ (¬ x = 0 → az_p151 C Q (8, lv, st, h)) := az_wp_iff.trans (az_go_if1 az_d_eq)
theorem az_s151_8 : az_p151 C Q (8, lv, st, h) ↔ az_mi (lv 2) (fun x => az_p151 C Q (9, lv, .int x :: st, h)) := az_wp_iff.trans az_go_ldi
theorem az_s151_9 : az_p151 C Q (9, lv, st, h) ↔ az_p151 C Q (10, lv, .int (Int32.ofInt (1)) :: st, h) := az_wp_iff
theorem az_s151_10 : az_p151 C Q (10, lv, st, h) ↔ az_p151 C Q (13, lv, .int (Int32.ofInt (1000)) :: st, h) := az_wp_iff
theorem az_s151_13 {v1 v2 v3 : Value} : az_p151 C Q (13, lv, v3 :: v2 :: v1 :: st, h) ↔ az_cat st ≤ 8 ∧ az_mc C 134 [v1, v2, v3] h (fun v h' => az_p151 C Q (16, lv, v ++ st, h')) := az_wp_iff.trans az_go_call
theorem az_s151_16 {x : Int32} : az_p151 C Q (16, lv, .int x :: st, h) ↔ (x = 0 → az_p151 C Q (47, lv, st, h)) ∧ (¬ x = 0 → az_p151 C Q (19, lv, st, h)) := az_wp_iff.trans (az_go_if1 az_d_eq)
theorem az_s151_19 : az_p151 C Q (19, lv, st, h) ↔ az_mi (lv 3) (fun x => az_p151 C Q (20, lv, .int x :: st, h)) := az_wp_iff.trans az_go_ldi
theorem az_s151_20 : az_p151 C Q (20, lv, st, h) ↔ az_p151 C Q (21, lv, .int (Int32.ofInt (0)) :: st, h) := az_wp_iff
theorem az_s151_21 : az_p151 C Q (21, lv, st, h) ↔ az_p151 C Q (22, lv, .int (Int32.ofInt (2)) :: st, h) := az_wp_iff
theorem az_s151_22 {v1 v2 v3 : Value} : az_p151 C Q (22, lv, v3 :: v2 :: v1 :: st, h) ↔ az_cat st ≤ 8 ∧ az_mc C 134 [v1, v2, v3] h (fun v h' => az_p151 C Q (25, lv, v ++ st, h')) := az_wp_iff.trans az_go_call
theorem az_s151_25 {x : Int32} : az_p151 C Q (25, lv, .int x :: st, h) ↔ (x = 0 → az_p151 C Q (47, lv, st, h)) ∧ (¬ x = 0 → az_p151 C Q (28, lv, st, h)) := az_wp_iff.trans (az_go_if1 az_d_eq)
theorem az_s151_28 : az_p151 C Q (28, lv, st, h) ↔ az_mi (lv 2) (fun x => az_p151 C Q (29, lv, .int x :: st, h)) := az_wp_iff.trans az_go_ldi
theorem az_s151_29 : az_p151 C Q (29, lv, st, h) ↔ az_ma (lv 0) (fun x => az_p151 C Q (30, lv, x :: st, h)) := az_wp_iff.trans az_go_lda
theorem az_s151_30 {a : Nat} : az_p151 C Q (30, lv, .ref a :: st, h) ↔ az_mf (h.1 a) 11 28 (fun v => az_p151 C Q (33, lv, v :: st, h)) := az_wp_iff.trans az_go_gf
theorem az_s151_33 : az_p151 C Q (33, lv, st, h) ↔ az_mi (lv 1) (fun x => az_p151 C Q (34, lv, .int x :: st, h)) := az_wp_iff.trans az_go_ldi
theorem az_s151_34 {a : Nat} {i : Int32} : az_p151 C Q (34, lv, .int i :: .ref a :: st, h) ↔ az_mr (h.1 a) 0 i.toInt (fun x => az_p151 C Q (35, lv, .int x :: st, h)) := az_wp_iff.trans az_go_ial
theorem az_s151_35 {x y : Int32} : az_p151 C Q (35, lv, .int y :: .int x :: st, h) ↔ (x ≤ y → az_p151 C Q (47, lv, st, h)) ∧ (¬ x ≤ y → az_p151 C Q (38, lv, st, h)) := az_wp_iff.trans (az_go_if2 az_d_eq)
theorem az_s151_38 : az_p151 C Q (38, lv, st, h) ↔ az_ma (lv 0) (fun x => az_p151 C Q (39, lv, x :: st, h)) := az_wp_iff.trans az_go_lda
theorem az_s151_39 {a : Nat} : az_p151 C Q (39, lv, .ref a :: st, h) ↔ az_mf (h.1 a) 11 38 (fun v => az_p151 C Q (42, lv, v :: st, h)) := az_wp_iff.trans az_go_gf
theorem az_s151_42 : az_p151 C Q (42, lv, st, h) ↔ az_p151 C Q (44, lv, .int (Int32.ofInt (40)) :: st, h) := az_wp_iff
theorem az_s151_44 {x y : Int32} : az_p151 C Q (44, lv, .int y :: .int x :: st, h) ↔ (¬ x = y → az_p151 C Q (49, lv, st, h)) ∧ (¬ ¬ x = y → az_p151 C Q (47, lv, st, h)) := az_wp_iff.trans (az_go_if2 az_d_eq)
theorem az_s151_47 : az_p151 C Q (47, lv, st, h) ↔ az_p151 C Q (48, lv, .int (Int32.ofInt (0)) :: st, h) := az_wp_iff
theorem az_s151_48 {x : Int32} : az_p151 C Q (48, lv, [.int x], h) ↔ (x = 0 ∨ x = 1) ∧ Q (some (.int x)) h := az_wp_iff.trans az_go_if
theorem az_s151_49 : az_p151 C Q (49, lv, st, h) ↔ az_p151 C Q (50, lv, .int (Int32.ofInt (0)) :: st, h) := az_wp_iff
theorem az_s151_50 {x : Int32} : az_p151 C Q (50, lv, .int x :: st, h) ↔ az_p151 C Q (52, (az_s1 lv 4 (.int x)), st, h) := az_wp_iff
theorem az_s151_52 : az_p151 C Q (52, lv, st, h) ↔ az_mi (lv 4) (fun x => az_p151 C Q (54, lv, .int x :: st, h)) := az_wp_iff.trans az_go_ldi
theorem az_s151_54 : az_p151 C Q (54, lv, st, h) ↔ az_ma (lv 0) (fun x => az_p151 C Q (55, lv, x :: st, h)) := az_wp_iff.trans az_go_lda
theorem az_s151_55 {a : Nat} : az_p151 C Q (55, lv, .ref a :: st, h) ↔ az_mf (h.1 a) 11 38 (fun v => az_p151 C Q (58, lv, v :: st, h)) := az_wp_iff.trans az_go_gf
theorem az_s151_58 {x y : Int32} : az_p151 C Q (58, lv, .int y :: .int x :: st, h) ↔ (y ≤ x → az_p151 C Q (91, lv, st, h)) ∧ (¬ y ≤ x → az_p151 C Q (61, lv, st, h)) := az_wp_iff.trans (az_go_if2 az_d_eq)
theorem az_s151_61 : az_p151 C Q (61, lv, st, h) ↔ az_ma (lv 0) (fun x => az_p151 C Q (62, lv, x :: st, h)) := az_wp_iff.trans az_go_lda
theorem az_s151_62 {a : Nat} : az_p151 C Q (62, lv, .ref a :: st, h) ↔ az_mf (h.1 a) 11 39 (fun v => az_p151 C Q (65, lv, v :: st, h)) := az_wp_iff.trans az_go_gf
theorem az_s151_65 : az_p151 C Q (65, lv, st, h) ↔ az_mi (lv 4) (fun x => az_p151 C Q (67, lv, .int x :: st, h)) := az_wp_iff.trans az_go_ldi
theorem az_s151_67 {a : Nat} {i : Int32} : az_p151 C Q (67, lv, .int i :: .ref a :: st, h) ↔ az_mr (h.1 a) 0 i.toInt (fun x => az_p151 C Q (68, lv, .int x :: st, h)) := az_wp_iff.trans az_go_ial
theorem az_s151_68 : az_p151 C Q (68, lv, st, h) ↔ az_mi (lv 1) (fun x => az_p151 C Q (69, lv, .int x :: st, h)) := az_wp_iff.trans az_go_ldi
theorem az_s151_69 {x y : Int32} : az_p151 C Q (69, lv, .int y :: .int x :: st, h) ↔ (¬ x = y → az_p151 C Q (85, lv, st, h)) ∧ (¬ ¬ x = y → az_p151 C Q (72, lv, st, h)) := az_wp_iff.trans (az_go_if2 az_d_eq)
theorem az_s151_72 : az_p151 C Q (72, lv, st, h) ↔ az_ma (lv 0) (fun x => az_p151 C Q (73, lv, x :: st, h)) := az_wp_iff.trans az_go_lda
theorem az_s151_73 {a : Nat} : az_p151 C Q (73, lv, .ref a :: st, h) ↔ az_mf (h.1 a) 11 40 (fun v => az_p151 C Q (76, lv, v :: st, h)) := az_wp_iff.trans az_go_gf
theorem az_s151_76 : az_p151 C Q (76, lv, st, h) ↔ az_mi (lv 4) (fun x => az_p151 C Q (78, lv, .int x :: st, h)) := az_wp_iff.trans az_go_ldi
theorem az_s151_78 {a : Nat} {i : Int32} : az_p151 C Q (78, lv, .int i :: .ref a :: st, h) ↔ az_mr (h.1 a) 0 i.toInt (fun x => az_p151 C Q (79, lv, .int x :: st, h)) := az_wp_iff.trans az_go_ial
theorem az_s151_79 : az_p151 C Q (79, lv, st, h) ↔ az_mi (lv 2) (fun x => az_p151 C Q (80, lv, .int x :: st, h)) := az_wp_iff.trans az_go_ldi
theorem az_s151_80 {x y : Int32} : az_p151 C Q (80, lv, .int y :: .int x :: st, h) ↔ (¬ x = y → az_p151 C Q (85, lv, st, h)) ∧ (¬ ¬ x = y → az_p151 C Q (83, lv, st, h)) := az_wp_iff.trans (az_go_if2 az_d_eq)
theorem az_s151_83 : az_p151 C Q (83, lv, st, h) ↔ az_p151 C Q (84, lv, .int (Int32.ofInt (0)) :: st, h) := az_wp_iff
theorem az_s151_84 {x : Int32} : az_p151 C Q (84, lv, [.int x], h) ↔ (x = 0 ∨ x = 1) ∧ Q (some (.int x)) h := az_wp_iff.trans az_go_if
theorem az_s151_85 : az_p151 C Q (85, lv, st, h) ↔ az_mi (lv 4) (fun x => az_p151 C Q (88, (az_s1 lv 4 (.int (x + Int32.ofInt (1)))), st, h)) := az_wp_iff.trans az_go_inc
theorem az_s151_88 : az_p151 C Q (88, lv, st, h) ↔ az_p151 C Q (52, lv, st, h) := az_wp_iff
theorem az_s151_91 : az_p151 C Q (91, lv, st, h) ↔ az_ma (lv 0) (fun x => az_p151 C Q (92, lv, x :: st, h)) := az_wp_iff.trans az_go_lda
theorem az_s151_92 {a : Nat} : az_p151 C Q (92, lv, .ref a :: st, h) ↔ az_mf (h.1 a) 11 39 (fun v => az_p151 C Q (95, lv, v :: st, h)) := az_wp_iff.trans az_go_gf
theorem az_s151_95 : az_p151 C Q (95, lv, st, h) ↔ az_ma (lv 0) (fun x => az_p151 C Q (96, lv, x :: st, h)) := az_wp_iff.trans az_go_lda
theorem az_s151_96 {a : Nat} : az_p151 C Q (96, lv, .ref a :: st, h) ↔ az_mf (h.1 a) 11 38 (fun v => az_p151 C Q (99, lv, v :: st, h)) := az_wp_iff.trans az_go_gf
theorem az_s151_99 : az_p151 C Q (99, lv, st, h) ↔ az_mi (lv 1) (fun x => az_p151 C Q (100, lv, .int x :: st, h)) := az_wp_iff.trans az_go_ldi
theorem az_s151_100 {a : Nat} {i x : Int32} : az_p151 C Q (100, lv, .int x :: .int i :: .ref a :: st, h) ↔ az_mw' (h.1 a) i.toInt x (fun c => az_p151 C Q (101, lv, st, az_uh h a c)) := az_wp_iff.trans az_go_ias
theorem az_s151_101 : az_p151 C Q (101, lv, st, h) ↔ az_ma (lv 0) (fun x => az_p151 C Q (102, lv, x :: st, h)) := az_wp_iff.trans az_go_lda
theorem az_s151_102 {a : Nat} : az_p151 C Q (102, lv, .ref a :: st, h) ↔ az_mf (h.1 a) 11 40 (fun v => az_p151 C Q (105, lv, v :: st, h)) := az_wp_iff.trans az_go_gf
theorem az_s151_105 : az_p151 C Q (105, lv, st, h) ↔ az_ma (lv 0) (fun x => az_p151 C Q (106, lv, x :: st, h)) := az_wp_iff.trans az_go_lda
theorem az_s151_106 {a : Nat} : az_p151 C Q (106, lv, .ref a :: st, h) ↔ az_mf (h.1 a) 11 38 (fun v => az_p151 C Q (109, lv, v :: st, h)) := az_wp_iff.trans az_go_gf
theorem az_s151_109 : az_p151 C Q (109, lv, st, h) ↔ az_mi (lv 2) (fun x => az_p151 C Q (110, lv, .int x :: st, h)) := az_wp_iff.trans az_go_ldi
theorem az_s151_110 {a : Nat} {i x : Int32} : az_p151 C Q (110, lv, .int x :: .int i :: .ref a :: st, h) ↔ az_mw' (h.1 a) i.toInt x (fun c => az_p151 C Q (111, lv, st, az_uh h a c)) := az_wp_iff.trans az_go_ias
theorem az_s151_111 : az_p151 C Q (111, lv, st, h) ↔ az_ma (lv 0) (fun x => az_p151 C Q (112, lv, x :: st, h)) := az_wp_iff.trans az_go_lda
theorem az_s151_112 {a : Nat} : az_p151 C Q (112, lv, .ref a :: st, h) ↔ az_mf (h.1 a) 11 41 (fun v => az_p151 C Q (115, lv, v :: st, h)) := az_wp_iff.trans az_go_gf
theorem az_s151_115 : az_p151 C Q (115, lv, st, h) ↔ az_ma (lv 0) (fun x => az_p151 C Q (116, lv, x :: st, h)) := az_wp_iff.trans az_go_lda
theorem az_s151_116 {a : Nat} : az_p151 C Q (116, lv, .ref a :: st, h) ↔ az_mf (h.1 a) 11 38 (fun v => az_p151 C Q (119, lv, v :: st, h)) := az_wp_iff.trans az_go_gf
theorem az_s151_119 : az_p151 C Q (119, lv, st, h) ↔ az_mi (lv 3) (fun x => az_p151 C Q (120, lv, .int x :: st, h)) := az_wp_iff.trans az_go_ldi
theorem az_s151_120 {a : Nat} {i x : Int32} : az_p151 C Q (120, lv, .int x :: .int i :: .ref a :: st, h) ↔ az_mw' (h.1 a) i.toInt x (fun c => az_p151 C Q (121, lv, st, az_uh h a c)) := az_wp_iff.trans az_go_ias
theorem az_s151_121 : az_p151 C Q (121, lv, st, h) ↔ az_ma (lv 0) (fun x => az_p151 C Q (122, lv, x :: st, h)) := az_wp_iff.trans az_go_lda
theorem az_s151_122 {x : Int32} : az_p151 C Q (122, lv, .int x :: st, h) ↔ az_p151 C Q (123, lv, .int x :: .int x :: st, h) := az_wp_iff
theorem az_s151_122r {x : Nat} : az_p151 C Q (122, lv, .ref x :: st, h) ↔ az_p151 C Q (123, lv, .ref x :: .ref x :: st, h) := az_wp_iff
theorem az_s151_123 {a : Nat} : az_p151 C Q (123, lv, .ref a :: st, h) ↔ az_mf (h.1 a) 11 38 (fun v => az_p151 C Q (126, lv, v :: st, h)) := az_wp_iff.trans az_go_gf
theorem az_s151_126 : az_p151 C Q (126, lv, st, h) ↔ az_p151 C Q (127, lv, .int (Int32.ofInt (1)) :: st, h) := az_wp_iff
theorem az_s151_127 {x y : Int32} : az_p151 C Q (127, lv, .int y :: .int x :: st, h) ↔ az_p151 C Q (128, lv, .int (x + y) :: st, h) := az_wp_iff
theorem az_s151_128 {a : Nat} {v : Value} : az_p151 C Q (128, lv, v :: .ref a :: st, h) ↔ az_mp (h.1 a) 11 38 0 v (fun c => az_p151 C Q (131, lv, st, az_uh h a c)) := az_wp_iff.trans az_go_pf
theorem az_s151_131 : az_p151 C Q (131, lv, st, h) ↔ az_p151 C Q (132, lv, .int (Int32.ofInt (1)) :: st, h) := az_wp_iff
theorem az_s151_132 {x : Int32} : az_p151 C Q (132, lv, [.int x], h) ↔ (x = 0 ∨ x = 1) ∧ Q (some (.int x)) h := az_wp_iff.trans az_go_if
def az_p152 (C : az_Cl) (Q : Option Value → az_H → Prop) : az_S → Prop := az_wp C (fun _ => none) (some .boolean) (az_fn az_k152) Q
theorem az_s152_0 : az_p152 C Q (0, lv, st, h) ↔ az_ma (lv 0) (fun x => az_p152 C Q (1, lv, x :: st, h)) := az_wp_iff.trans az_go_lda
theorem az_s152_1 : az_p152 C Q (1, lv, st, h) ↔ az_mi (lv 1) (fun x => az_p152 C Q (2, lv, .int x :: st, h)) := az_wp_iff.trans az_go_ldi
theorem az_s152_2 {a : Nat} {v1 : Value} : az_p152 C Q (2, lv, v1 :: .ref a :: st, h) ↔ az_isob (h.1 a) 11 = true ∧ az_cat st ≤ 8 ∧ az_mc C 136 [.ref a, v1] h (fun v h' => az_p152 C Q (5, lv, v ++ st, h')) := az_wp_iff.trans (az_go_if.trans (and_congr Iff.rfl az_go_call))
theorem az_s152_5 {x : Int32} : az_p152 C Q (5, lv, .int x :: st, h) ↔ (x = 0 → az_p152 C Q (37, lv, st, h)) ∧ (¬ x = 0 → az_p152 C Q (8, lv, st, h)) := az_wp_iff.trans (az_go_if1 az_d_eq)
theorem az_s152_8 : az_p152 C Q (8, lv, st, h) ↔ az_mi (lv 2) (fun x => az_p152 C Q (9, lv, .int x :: st, h)) := az_wp_iff.trans az_go_ldi
theorem az_s152_9 : az_p152 C Q (9, lv, st, h) ↔ az_p152 C Q (10, lv, .int (Int32.ofInt (0)) :: st, h) := az_wp_iff
theorem az_s152_10 : az_p152 C Q (10, lv, st, h) ↔ az_p152 C Q (11, lv, .int (Int32.ofInt (2)) :: st, h) := az_wp_iff
theorem az_s152_11 {v1 v2 v3 : Value} : az_p152 C Q (11, lv, v3 :: v2 :: v1 :: st, h) ↔ az_cat st ≤ 8 ∧ az_mc C 134 [v1, v2, v3] h (fun v h' => az_p152 C Q (14, lv, v ++ st, h')) := az_wp_iff.trans az_go_call
theorem az_s152_14 {x : Int32} : az_p152 C Q (14, lv, .int x :: st, h) ↔ (x = 0 → az_p152 C Q (37, lv, st, h)) ∧ (¬ x = 0 → az_p152 C Q (17, lv, st, h)) := az_wp_iff.trans (az_go_if1 az_d_eq)
theorem az_s152_17 : az_p152 C Q (17, lv, st, h) ↔ az_mi (lv 3) (fun x => az_p152 C Q (18, lv, .int x :: st, h)) := az_wp_iff.trans az_go_ldi
theorem az_s152_18 : az_p152 C Q (18, lv, st, h) ↔ az_p152 C Q (19, lv, .int (Int32.ofInt (0)) :: st, h) := az_wp_iff
theorem az_s152_19 : az_p152 C Q (19, lv, st, h) ↔ az_p152 C Q (20, lv, .int (Int32.ofInt (2)) :: st, h) := az_wp_iff
theorem az_s152_20 {v1 v2 v3 : Value} : az_p152 C Q (20, lv, v3 :: v2 :: v1 :: st, h) ↔ az_cat st ≤ 8 ∧ az_mc C 134 [v1, v2, v3] h (fun v h' => az_p152 C Q (23, lv, v ++ st, h')) := az_wp_iff.trans az_go_call
theorem az_s152_23 {x : Int32} : az_p152 C Q (23, lv, .int x :: st, h) ↔ (x = 0 → az_p152 C Q (37, lv, st, h)) ∧ (¬ x = 0 → az_p152 C Q (26, lv, st, h)) := az_wp_iff.trans (az_go_if1 az_d_eq)
theorem az_s152_26 : az_p152 C Q (26, lv, st, h) ↔ az_mi (lv 4) (fun x => az_p152 C Q (28, lv, .int x :: st, h)) := az_wp_iff.trans az_go_ldi
theorem az_s152_28 : az_p152 C Q (28, lv, st, h) ↔ az_p152 C Q (29, lv, .int (Int32.ofInt (1)) :: st, h) := az_wp_iff
theorem az_s152_29 : az_p152 C Q (29, lv, st, h) ↔ az_p152 C Q (31, lv, .int (Int32.ofInt (30)) :: st, h) := az_wp_iff
theorem az_s152_31 {v1 v2 v3 : Value} : az_p152 C Q (31, lv, v3 :: v2 :: v1 :: st, h) ↔ az_cat st ≤ 8 ∧ az_mc C 134 [v1, v2, v3] h (fun v h' => az_p152 C Q (34, lv, v ++ st, h')) := az_wp_iff.trans az_go_call
theorem az_s152_34 {x : Int32} : az_p152 C Q (34, lv, .int x :: st, h) ↔ (¬ x = 0 → az_p152 C Q (39, lv, st, h)) ∧ (¬ ¬ x = 0 → az_p152 C Q (37, lv, st, h)) := az_wp_iff.trans (az_go_if1 az_d_eq)
theorem az_s152_37 : az_p152 C Q (37, lv, st, h) ↔ az_p152 C Q (38, lv, .int (Int32.ofInt (0)) :: st, h) := az_wp_iff
theorem az_s152_38 {x : Int32} : az_p152 C Q (38, lv, [.int x], h) ↔ (x = 0 ∨ x = 1) ∧ Q (some (.int x)) h := az_wp_iff.trans az_go_if
theorem az_s152_39 : az_p152 C Q (39, lv, st, h) ↔ az_ma (lv 0) (fun x => az_p152 C Q (40, lv, x :: st, h)) := az_wp_iff.trans az_go_lda
theorem az_s152_40 {a : Nat} : az_p152 C Q (40, lv, .ref a :: st, h) ↔ az_mf (h.1 a) 11 16 (fun v => az_p152 C Q (43, lv, v :: st, h)) := az_wp_iff.trans az_go_gf
theorem az_s152_43 : az_p152 C Q (43, lv, st, h) ↔ az_p152 C Q (44, lv, .int (Int32.ofInt (3)) :: st, h) := az_wp_iff
theorem az_s152_44 : az_p152 C Q (44, lv, st, h) ↔ az_mi (lv 1) (fun x => az_p152 C Q (45, lv, .int x :: st, h)) := az_wp_iff.trans az_go_ldi
theorem az_s152_45 {x y : Int32} : az_p152 C Q (45, lv, .int y :: .int x :: st, h) ↔ az_p152 C Q (46, lv, .int (x * y) :: st, h) := az_wp_iff
theorem az_s152_46 : az_p152 C Q (46, lv, st, h) ↔ az_mi (lv 2) (fun x => az_p152 C Q (47, lv, .int x :: st, h)) := az_wp_iff.trans az_go_ldi
theorem az_s152_47 {x y : Int32} : az_p152 C Q (47, lv, .int y :: .int x :: st, h) ↔ az_p152 C Q (48, lv, .int (x + y) :: st, h) := az_wp_iff
theorem az_s152_48 : az_p152 C Q (48, lv, st, h) ↔ az_mi (lv 3) (fun x => az_p152 C Q (49, lv, .int x :: st, h)) := az_wp_iff.trans az_go_ldi
theorem az_s152_49 {a : Nat} {i x : Int32} : az_p152 C Q (49, lv, .int x :: .int i :: .ref a :: st, h) ↔ az_mw' (h.1 a) i.toInt x (fun c => az_p152 C Q (50, lv, st, az_uh h a c)) := az_wp_iff.trans az_go_ias
theorem az_s152_50 : az_p152 C Q (50, lv, st, h) ↔ az_ma (lv 0) (fun x => az_p152 C Q (51, lv, x :: st, h)) := az_wp_iff.trans az_go_lda
theorem az_s152_51 {a : Nat} : az_p152 C Q (51, lv, .ref a :: st, h) ↔ az_mf (h.1 a) 11 17 (fun v => az_p152 C Q (54, lv, v :: st, h)) := az_wp_iff.trans az_go_gf
theorem az_s152_54 : az_p152 C Q (54, lv, st, h) ↔ az_mi (lv 1) (fun x => az_p152 C Q (55, lv, .int x :: st, h)) := az_wp_iff.trans az_go_ldi
theorem az_s152_55 : az_p152 C Q (55, lv, st, h) ↔ az_mi (lv 4) (fun x => az_p152 C Q (57, lv, .int x :: st, h)) := az_wp_iff.trans az_go_ldi
theorem az_s152_57 {a : Nat} {i x : Int32} : az_p152 C Q (57, lv, .int x :: .int i :: .ref a :: st, h) ↔ az_mw' (h.1 a) i.toInt x (fun c => az_p152 C Q (58, lv, st, az_uh h a c)) := az_wp_iff.trans az_go_ias
theorem az_s152_58 : az_p152 C Q (58, lv, st, h) ↔ az_p152 C Q (59, lv, .int (Int32.ofInt (1)) :: st, h) := az_wp_iff
theorem az_s152_59 {x : Int32} : az_p152 C Q (59, lv, [.int x], h) ↔ (x = 0 ∨ x = 1) ∧ Q (some (.int x)) h := az_wp_iff.trans az_go_if
def az_p153 (C : az_Cl) (Q : Option Value → az_H → Prop) : az_S → Prop := az_wp C (fun _ => none) none (az_fn az_k153) Q
theorem az_s153_0 : az_p153 C Q (0, lv, st, h) ↔ az_p153 C Q (1, lv, .int (Int32.ofInt (3)) :: st, h) := az_wp_iff
theorem az_s153_1 : az_p153 C Q (1, lv, st, h) ↔ az_mi (lv 1) (fun x => az_p153 C Q (2, lv, .int x :: st, h)) := az_wp_iff.trans az_go_ldi
theorem az_s153_2 {x y : Int32} : az_p153 C Q (2, lv, .int y :: .int x :: st, h) ↔ az_p153 C Q (3, lv, .int (x * y) :: st, h) := az_wp_iff
theorem az_s153_3 : az_p153 C Q (3, lv, st, h) ↔ az_ma (lv 0) (fun x => az_p153 C Q (4, lv, x :: st, h)) := az_wp_iff.trans az_go_lda
theorem az_s153_4 {a : Nat} : az_p153 C Q (4, lv, .ref a :: st, h) ↔ az_mf (h.1 a) 11 23 (fun v => az_p153 C Q (7, lv, v :: st, h)) := az_wp_iff.trans az_go_gf
theorem az_s153_7 : az_p153 C Q (7, lv, st, h) ↔ az_mi (lv 1) (fun x => az_p153 C Q (8, lv, .int x :: st, h)) := az_wp_iff.trans az_go_ldi
theorem az_s153_8 {a : Nat} {i : Int32} : az_p153 C Q (8, lv, .int i :: .ref a :: st, h) ↔ az_mr (h.1 a) 0 i.toInt (fun x => az_p153 C Q (9, lv, .int x :: st, h)) := az_wp_iff.trans az_go_ial
theorem az_s153_9 {x y : Int32} : az_p153 C Q (9, lv, .int y :: .int x :: st, h) ↔ az_p153 C Q (10, lv, .int (x + y) :: st, h) := az_wp_iff
theorem az_s153_10 {x : Int32} : az_p153 C Q (10, lv, .int x :: st, h) ↔ az_p153 C Q (12, (az_s1 lv 6 (.int x)), st, h) := az_wp_iff
theorem az_s153_12 : az_p153 C Q (12, lv, st, h) ↔ az_ma (lv 0) (fun x => az_p153 C Q (13, lv, x :: st, h)) := az_wp_iff.trans az_go_lda
theorem az_s153_13 {a : Nat} : az_p153 C Q (13, lv, .ref a :: st, h) ↔ az_mf (h.1 a) 11 24 (fun v => az_p153 C Q (16, lv, v :: st, h)) := az_wp_iff.trans az_go_gf
theorem az_s153_16 : az_p153 C Q (16, lv, st, h) ↔ az_mi (lv 6) (fun x => az_p153 C Q (18, lv, .int x :: st, h)) := az_wp_iff.trans az_go_ldi
theorem az_s153_18 : az_p153 C Q (18, lv, st, h) ↔ az_ml (lv 2) (fun x => az_p153 C Q (19, lv, .long x :: st, h)) := az_wp_iff.trans az_go_ldl
theorem az_s153_19 {a : Nat} {i : Int32} {x : Int64} : az_p153 C Q (19, lv, .long x :: .int i :: .ref a :: st, h) ↔ az_mwl (h.1 a) i.toInt x (fun c => az_p153 C Q (20, lv, st, az_uh h a c)) := az_wp_iff.trans az_go_las
theorem az_s153_20 : az_p153 C Q (20, lv, st, h) ↔ az_ma (lv 0) (fun x => az_p153 C Q (21, lv, x :: st, h)) := az_wp_iff.trans az_go_lda
theorem az_s153_21 {a : Nat} : az_p153 C Q (21, lv, .ref a :: st, h) ↔ az_mf (h.1 a) 11 25 (fun v => az_p153 C Q (24, lv, v :: st, h)) := az_wp_iff.trans az_go_gf
theorem az_s153_24 : az_p153 C Q (24, lv, st, h) ↔ az_mi (lv 6) (fun x => az_p153 C Q (26, lv, .int x :: st, h)) := az_wp_iff.trans az_go_ldi
theorem az_s153_26 : az_p153 C Q (26, lv, st, h) ↔ az_mi (lv 4) (fun x => az_p153 C Q (28, lv, .int x :: st, h)) := az_wp_iff.trans az_go_ldi
theorem az_s153_28 {a : Nat} {i x : Int32} : az_p153 C Q (28, lv, .int x :: .int i :: .ref a :: st, h) ↔ az_mw' (h.1 a) i.toInt x (fun c => az_p153 C Q (29, lv, st, az_uh h a c)) := az_wp_iff.trans az_go_ias
theorem az_s153_29 : az_p153 C Q (29, lv, st, h) ↔ az_ma (lv 0) (fun x => az_p153 C Q (30, lv, x :: st, h)) := az_wp_iff.trans az_go_lda
theorem az_s153_30 {a : Nat} : az_p153 C Q (30, lv, .ref a :: st, h) ↔ az_mf (h.1 a) 11 26 (fun v => az_p153 C Q (33, lv, v :: st, h)) := az_wp_iff.trans az_go_gf
theorem az_s153_33 : az_p153 C Q (33, lv, st, h) ↔ az_mi (lv 6) (fun x => az_p153 C Q (35, lv, .int x :: st, h)) := az_wp_iff.trans az_go_ldi
theorem az_s153_35 : az_p153 C Q (35, lv, st, h) ↔ az_mi (lv 5) (fun x => az_p153 C Q (37, lv, .int x :: st, h)) := az_wp_iff.trans az_go_ldi
theorem az_s153_37 {a : Nat} {i x : Int32} : az_p153 C Q (37, lv, .int x :: .int i :: .ref a :: st, h) ↔ az_mw' (h.1 a) i.toInt x (fun c => az_p153 C Q (38, lv, st, az_uh h a c)) := az_wp_iff.trans az_go_ias
theorem az_s153_38 : az_p153 C Q (38, lv, st, h) ↔ az_ma (lv 0) (fun x => az_p153 C Q (39, lv, x :: st, h)) := az_wp_iff.trans az_go_lda
theorem az_s153_39 {a : Nat} : az_p153 C Q (39, lv, .ref a :: st, h) ↔ az_mf (h.1 a) 11 23 (fun v => az_p153 C Q (42, lv, v :: st, h)) := az_wp_iff.trans az_go_gf
theorem az_s153_42 : az_p153 C Q (42, lv, st, h) ↔ az_mi (lv 1) (fun x => az_p153 C Q (43, lv, .int x :: st, h)) := az_wp_iff.trans az_go_ldi
theorem az_s153_43 {x : Int32} {y : Nat} : az_p153 C Q (43, lv, .int x :: .ref y :: st, h) ↔ az_p153 C Q (44, lv, .int x :: .ref y :: .int x :: .ref y :: st, h) := az_wp_iff
theorem az_s153_43l {x : Int64} : az_p153 C Q (43, lv, .long x :: st, h) ↔ az_p153 C Q (44, lv, .long x :: .long x :: st, h) := az_wp_iff
theorem az_s153_44 {a : Nat} {i : Int32} : az_p153 C Q (44, lv, .int i :: .ref a :: st, h) ↔ az_mr (h.1 a) 0 i.toInt (fun x => az_p153 C Q (45, lv, .int x :: st, h)) := az_wp_iff.trans az_go_ial
theorem az_s153_45 : az_p153 C Q (45, lv, st, h) ↔ az_p153 C Q (46, lv, .int (Int32.ofInt (1)) :: st, h) := az_wp_iff
theorem az_s153_46 {x y : Int32} : az_p153 C Q (46, lv, .int y :: .int x :: st, h) ↔ az_p153 C Q (47, lv, .int (x + y) :: st, h) := az_wp_iff
theorem az_s153_47 {a : Nat} {i x : Int32} : az_p153 C Q (47, lv, .int x :: .int i :: .ref a :: st, h) ↔ az_mw' (h.1 a) i.toInt x (fun c => az_p153 C Q (48, lv, st, az_uh h a c)) := az_wp_iff.trans az_go_ias
theorem az_s153_48 : az_p153 C Q (48, lv, [], h) ↔ Q none h := az_wp_iff
def az_p154 (C : az_Cl) (Q : Option Value → az_H → Prop) : az_S → Prop := az_wp C (fun _ => none) none (az_fn az_k154) Q
theorem az_s154_0 : az_p154 C Q (0, lv, st, h) ↔ az_ma (lv 0) (fun x => az_p154 C Q (1, lv, x :: st, h)) := az_wp_iff.trans az_go_lda
theorem az_s154_1 {a : Nat} : az_p154 C Q (1, lv, .ref a :: st, h) ↔ az_mf (h.1 a) 11 34 (fun v => az_p154 C Q (4, lv, v :: st, h)) := az_wp_iff.trans az_go_gf
theorem az_s154_4 : az_p154 C Q (4, lv, st, h) ↔ az_mi (lv 2) (fun x => az_p154 C Q (5, lv, .int x :: st, h)) := az_wp_iff.trans az_go_ldi
theorem az_s154_5 {a : Nat} {i : Int32} : az_p154 C Q (5, lv, .int i :: .ref a :: st, h) ↔ az_mrl (h.1 a) i.toInt (fun x => az_p154 C Q (6, lv, .long x :: st, h)) := az_wp_iff.trans az_go_lal
theorem az_s154_6 : az_p154 C Q (6, lv, st, h) ↔ az_ma (lv 0) (fun x => az_p154 C Q (7, lv, x :: st, h)) := az_wp_iff.trans az_go_lda
theorem az_s154_7 {a : Nat} : az_p154 C Q (7, lv, .ref a :: st, h) ↔ az_mf (h.1 a) 11 9 (fun v => az_p154 C Q (10, lv, v :: st, h)) := az_wp_iff.trans az_go_gf
theorem az_s154_10 : az_p154 C Q (10, lv, st, h) ↔ az_mi (lv 1) (fun x => az_p154 C Q (11, lv, .int x :: st, h)) := az_wp_iff.trans az_go_ldi
theorem az_s154_11 {a : Nat} {i : Int32} : az_p154 C Q (11, lv, .int i :: .ref a :: st, h) ↔ az_mr (h.1 a) 0 i.toInt (fun x => az_p154 C Q (12, lv, .int x :: st, h)) := az_wp_iff.trans az_go_ial
theorem az_s154_12 {x : Int32} : az_p154 C Q (12, lv, .int x :: st, h) ↔ az_p154 C Q (13, lv, .long x.toInt64 :: st, h) := az_wp_iff
theorem az_s154_13 {x y : Int64} : az_p154 C Q (13, lv, .long y :: .long x :: st, h) ↔ az_p154 C Q (14, lv, .long (x * y) :: st, h) := az_wp_iff
theorem az_s154_14 : az_p154 C Q (14, lv, st, h) ↔ az_p154 C Q (17, lv, .long (Int64.ofInt (1000)) :: st, h) := az_wp_iff
theorem az_s154_17 {x y : Int64} : az_p154 C Q (17, lv, .long y :: .long x :: st, h) ↔ ¬ y = 0 ∧ az_p154 C Q (18, lv, .long (x / y) :: st, h) := az_wp_iff.trans az_go_ldv
theorem az_s154_18 {x : Int64} : az_p154 C Q (18, lv, .long x :: st, h) ↔ az_p154 C Q (19, (az_s2 lv 3 (.long x)), st, h) := az_wp_iff
theorem az_s154_19 : az_p154 C Q (19, lv, st, h) ↔ az_ma (lv 0) (fun x => az_p154 C Q (20, lv, x :: st, h)) := az_wp_iff.trans az_go_lda
theorem az_s154_20 {x : Int32} : az_p154 C Q (20, lv, .int x :: st, h) ↔ az_p154 C Q (21, lv, .int x :: .int x :: st, h) := az_wp_iff
theorem az_s154_20r {x : Nat} : az_p154 C Q (20, lv, .ref x :: st, h) ↔ az_p154 C Q (21, lv, .ref x :: .ref x :: st, h) := az_wp_iff
theorem az_s154_21 {a : Nat} : az_p154 C Q (21, lv, .ref a :: st, h) ↔ az_mf (h.1 a) 11 51 (fun v => az_p154 C Q (24, lv, v :: st, h)) := az_wp_iff.trans az_go_gf
theorem az_s154_24 : az_p154 C Q (24, lv, st, h) ↔ az_ml (lv 3) (fun x => az_p154 C Q (25, lv, .long x :: st, h)) := az_wp_iff.trans az_go_ldl
theorem az_s154_25 {x y : Int64} : az_p154 C Q (25, lv, .long y :: .long x :: st, h) ↔ az_p154 C Q (26, lv, .long (x + y) :: st, h) := az_wp_iff
theorem az_s154_26 {a : Nat} {v : Value} : az_p154 C Q (26, lv, v :: .ref a :: st, h) ↔ az_mp (h.1 a) 11 51 1 v (fun c => az_p154 C Q (29, lv, st, az_uh h a c)) := az_wp_iff.trans az_go_pf
theorem az_s154_29 : az_p154 C Q (29, lv, st, h) ↔ az_ma (lv 0) (fun x => az_p154 C Q (30, lv, x :: st, h)) := az_wp_iff.trans az_go_lda
theorem az_s154_30 {a : Nat} : az_p154 C Q (30, lv, .ref a :: st, h) ↔ az_mf (h.1 a) 11 34 (fun v => az_p154 C Q (33, lv, v :: st, h)) := az_wp_iff.trans az_go_gf
theorem az_s154_33 : az_p154 C Q (33, lv, st, h) ↔ az_mi (lv 2) (fun x => az_p154 C Q (34, lv, .int x :: st, h)) := az_wp_iff.trans az_go_ldi
theorem az_s154_34 {x : Int32} {y : Nat} : az_p154 C Q (34, lv, .int x :: .ref y :: st, h) ↔ az_p154 C Q (35, lv, .int x :: .ref y :: .int x :: .ref y :: st, h) := az_wp_iff
theorem az_s154_34l {x : Int64} : az_p154 C Q (34, lv, .long x :: st, h) ↔ az_p154 C Q (35, lv, .long x :: .long x :: st, h) := az_wp_iff
theorem az_s154_35 {a : Nat} {i : Int32} : az_p154 C Q (35, lv, .int i :: .ref a :: st, h) ↔ az_mrl (h.1 a) i.toInt (fun x => az_p154 C Q (36, lv, .long x :: st, h)) := az_wp_iff.trans az_go_lal
theorem az_s154_36 : az_p154 C Q (36, lv, st, h) ↔ az_ml (lv 3) (fun x => az_p154 C Q (37, lv, .long x :: st, h)) := az_wp_iff.trans az_go_ldl
theorem az_s154_37 {x y : Int64} : az_p154 C Q (37, lv, .long y :: .long x :: st, h) ↔ az_p154 C Q (38, lv, .long (x - y) :: st, h) := az_wp_iff
theorem az_s154_38 {a : Nat} {i : Int32} {x : Int64} : az_p154 C Q (38, lv, .long x :: .int i :: .ref a :: st, h) ↔ az_mwl (h.1 a) i.toInt x (fun c => az_p154 C Q (39, lv, st, az_uh h a c)) := az_wp_iff.trans az_go_las
theorem az_s154_39 : az_p154 C Q (39, lv, [], h) ↔ Q none h := az_wp_iff
def az_p155 (C : az_Cl) (Q : Option Value → az_H → Prop) : az_S → Prop := az_wp C (fun _ => none) none (az_fn az_k155) Q
theorem az_s155_0 : az_p155 C Q (0, lv, st, h) ↔ az_ma (lv 0) (fun x => az_p155 C Q (1, lv, x :: st, h)) := az_wp_iff.trans az_go_lda
theorem az_s155_1 {a : Nat} : az_p155 C Q (1, lv, .ref a :: st, h) ↔ az_mf (h.1 a) 11 36 (fun v => az_p155 C Q (4, lv, v :: st, h)) := az_wp_iff.trans az_go_gf
theorem az_s155_4 : az_p155 C Q (4, lv, st, h) ↔ az_mi (lv 2) (fun x => az_p155 C Q (5, lv, .int x :: st, h)) := az_wp_iff.trans az_go_ldi
theorem az_s155_5 {a : Nat} {i : Int32} : az_p155 C Q (5, lv, .int i :: .ref a :: st, h) ↔ az_mr (h.1 a) 0 i.toInt (fun x => az_p155 C Q (6, lv, .int x :: st, h)) := az_wp_iff.trans az_go_ial
theorem az_s155_6 : az_p155 C Q (6, lv, st, h) ↔ az_ma (lv 0) (fun x => az_p155 C Q (7, lv, x :: st, h)) := az_wp_iff.trans az_go_lda
theorem az_s155_7 {a : Nat} : az_p155 C Q (7, lv, .ref a :: st, h) ↔ az_mf (h.1 a) 11 9 (fun v => az_p155 C Q (10, lv, v :: st, h)) := az_wp_iff.trans az_go_gf
theorem az_s155_10 : az_p155 C Q (10, lv, st, h) ↔ az_mi (lv 1) (fun x => az_p155 C Q (11, lv, .int x :: st, h)) := az_wp_iff.trans az_go_ldi
theorem az_s155_11 {a : Nat} {i : Int32} : az_p155 C Q (11, lv, .int i :: .ref a :: st, h) ↔ az_mr (h.1 a) 0 i.toInt (fun x => az_p155 C Q (12, lv, .int x :: st, h)) := az_wp_iff.trans az_go_ial
theorem az_s155_12 {x y : Int32} : az_p155 C Q (12, lv, .int y :: .int x :: st, h) ↔ (x < y → az_p155 C Q (16, lv, st, h)) ∧ (¬ x < y → az_p155 C Q (15, lv, st, h)) := az_wp_iff.trans (az_go_if2 az_d_eq)
theorem az_s155_15 : az_p155 C Q (15, lv, [], h) ↔ Q none h := az_wp_iff
theorem az_s155_16 : az_p155 C Q (16, lv, st, h) ↔ az_ma (lv 0) (fun x => az_p155 C Q (17, lv, x :: st, h)) := az_wp_iff.trans az_go_lda
theorem az_s155_17 {a : Nat} : az_p155 C Q (17, lv, .ref a :: st, h) ↔ az_mf (h.1 a) 11 34 (fun v => az_p155 C Q (20, lv, v :: st, h)) := az_wp_iff.trans az_go_gf
theorem az_s155_20 : az_p155 C Q (20, lv, st, h) ↔ az_mi (lv 2) (fun x => az_p155 C Q (21, lv, .int x :: st, h)) := az_wp_iff.trans az_go_ldi
theorem az_s155_21 {a : Nat} {i : Int32} : az_p155 C Q (21, lv, .int i :: .ref a :: st, h) ↔ az_mrl (h.1 a) i.toInt (fun x => az_p155 C Q (22, lv, .long x :: st, h)) := az_wp_iff.trans az_go_lal
theorem az_s155_22 : az_p155 C Q (22, lv, st, h) ↔ az_ma (lv 0) (fun x => az_p155 C Q (23, lv, x :: st, h)) := az_wp_iff.trans az_go_lda
theorem az_s155_23 {a : Nat} : az_p155 C Q (23, lv, .ref a :: st, h) ↔ az_mf (h.1 a) 11 9 (fun v => az_p155 C Q (26, lv, v :: st, h)) := az_wp_iff.trans az_go_gf
theorem az_s155_26 : az_p155 C Q (26, lv, st, h) ↔ az_mi (lv 1) (fun x => az_p155 C Q (27, lv, .int x :: st, h)) := az_wp_iff.trans az_go_ldi
theorem az_s155_27 {a : Nat} {i : Int32} : az_p155 C Q (27, lv, .int i :: .ref a :: st, h) ↔ az_mr (h.1 a) 0 i.toInt (fun x => az_p155 C Q (28, lv, .int x :: st, h)) := az_wp_iff.trans az_go_ial
theorem az_s155_28 : az_p155 C Q (28, lv, st, h) ↔ az_ma (lv 0) (fun x => az_p155 C Q (29, lv, x :: st, h)) := az_wp_iff.trans az_go_lda
theorem az_s155_29 {a : Nat} : az_p155 C Q (29, lv, .ref a :: st, h) ↔ az_mf (h.1 a) 11 36 (fun v => az_p155 C Q (32, lv, v :: st, h)) := az_wp_iff.trans az_go_gf
theorem az_s155_32 : az_p155 C Q (32, lv, st, h) ↔ az_mi (lv 2) (fun x => az_p155 C Q (33, lv, .int x :: st, h)) := az_wp_iff.trans az_go_ldi
theorem az_s155_33 {a : Nat} {i : Int32} : az_p155 C Q (33, lv, .int i :: .ref a :: st, h) ↔ az_mr (h.1 a) 0 i.toInt (fun x => az_p155 C Q (34, lv, .int x :: st, h)) := az_wp_iff.trans az_go_ial
theorem az_s155_34 {x y : Int32} : az_p155 C Q (34, lv, .int y :: .int x :: st, h) ↔ az_p155 C Q (35, lv, .int (x - y) :: st, h) := az_wp_iff
theorem az_s155_35 {x : Int32} : az_p155 C Q (35, lv, .int x :: st, h) ↔ az_p155 C Q (36, lv, .long x.toInt64 :: st, h) := az_wp_iff
theorem az_s155_36 {x y : Int64} : az_p155 C Q (36, lv, .long y :: .long x :: st, h) ↔ az_p155 C Q (37, lv, .long (x * y) :: st, h) := az_wp_iff
theorem az_s155_37 : az_p155 C Q (37, lv, st, h) ↔ az_p155 C Q (40, lv, .long (Int64.ofInt (1000)) :: st, h) := az_wp_iff
theorem az_s155_40 : az_p155 C Q (40, lv, st, h) ↔ az_ma (lv 0) (fun x => az_p155 C Q (41, lv, x :: st, h)) := az_wp_iff.trans az_go_lda
theorem az_s155_41 {a : Nat} : az_p155 C Q (41, lv, .ref a :: st, h) ↔ az_mf (h.1 a) 11 9 (fun v => az_p155 C Q (44, lv, v :: st, h)) := az_wp_iff.trans az_go_gf
theorem az_s155_44 : az_p155 C Q (44, lv, st, h) ↔ az_mi (lv 1) (fun x => az_p155 C Q (45, lv, .int x :: st, h)) := az_wp_iff.trans az_go_ldi
theorem az_s155_45 {a : Nat} {i : Int32} : az_p155 C Q (45, lv, .int i :: .ref a :: st, h) ↔ az_mr (h.1 a) 0 i.toInt (fun x => az_p155 C Q (46, lv, .int x :: st, h)) := az_wp_iff.trans az_go_ial
theorem az_s155_46 {x : Int32} : az_p155 C Q (46, lv, .int x :: st, h) ↔ az_p155 C Q (47, lv, .long x.toInt64 :: st, h) := az_wp_iff
theorem az_s155_47 {x y : Int64} : az_p155 C Q (47, lv, .long y :: .long x :: st, h) ↔ az_p155 C Q (48, lv, .long (x - y) :: st, h) := az_wp_iff
theorem az_s155_48 {x y : Int64} : az_p155 C Q (48, lv, .long y :: .long x :: st, h) ↔ ¬ y = 0 ∧ az_p155 C Q (49, lv, .long (x / y) :: st, h) := az_wp_iff.trans az_go_ldv
theorem az_s155_49 {x : Int64} : az_p155 C Q (49, lv, .long x :: st, h) ↔ az_p155 C Q (50, (az_s2 lv 3 (.long x)), st, h) := az_wp_iff
theorem az_s155_50 : az_p155 C Q (50, lv, st, h) ↔ az_ma (lv 0) (fun x => az_p155 C Q (51, lv, x :: st, h)) := az_wp_iff.trans az_go_lda
theorem az_s155_51 {x : Int32} : az_p155 C Q (51, lv, .int x :: st, h) ↔ az_p155 C Q (52, lv, .int x :: .int x :: st, h) := az_wp_iff
theorem az_s155_51r {x : Nat} : az_p155 C Q (51, lv, .ref x :: st, h) ↔ az_p155 C Q (52, lv, .ref x :: .ref x :: st, h) := az_wp_iff
theorem az_s155_52 {a : Nat} : az_p155 C Q (52, lv, .ref a :: st, h) ↔ az_mf (h.1 a) 11 49 (fun v => az_p155 C Q (55, lv, v :: st, h)) := az_wp_iff.trans az_go_gf
theorem az_s155_55 : az_p155 C Q (55, lv, st, h) ↔ az_ml (lv 3) (fun x => az_p155 C Q (56, lv, .long x :: st, h)) := az_wp_iff.trans az_go_ldl
theorem az_s155_56 {x y : Int64} : az_p155 C Q (56, lv, .long y :: .long x :: st, h) ↔ az_p155 C Q (57, lv, .long (x + y) :: st, h) := az_wp_iff
theorem az_s155_57 {a : Nat} {v : Value} : az_p155 C Q (57, lv, v :: .ref a :: st, h) ↔ az_mp (h.1 a) 11 49 1 v (fun c => az_p155 C Q (60, lv, st, az_uh h a c)) := az_wp_iff.trans az_go_pf
theorem az_s155_60 : az_p155 C Q (60, lv, st, h) ↔ az_ma (lv 0) (fun x => az_p155 C Q (61, lv, x :: st, h)) := az_wp_iff.trans az_go_lda
theorem az_s155_61 {a : Nat} : az_p155 C Q (61, lv, .ref a :: st, h) ↔ az_mf (h.1 a) 11 34 (fun v => az_p155 C Q (64, lv, v :: st, h)) := az_wp_iff.trans az_go_gf
theorem az_s155_64 : az_p155 C Q (64, lv, st, h) ↔ az_mi (lv 2) (fun x => az_p155 C Q (65, lv, .int x :: st, h)) := az_wp_iff.trans az_go_ldi
theorem az_s155_65 {x : Int32} {y : Nat} : az_p155 C Q (65, lv, .int x :: .ref y :: st, h) ↔ az_p155 C Q (66, lv, .int x :: .ref y :: .int x :: .ref y :: st, h) := az_wp_iff
theorem az_s155_65l {x : Int64} : az_p155 C Q (65, lv, .long x :: st, h) ↔ az_p155 C Q (66, lv, .long x :: .long x :: st, h) := az_wp_iff
theorem az_s155_66 {a : Nat} {i : Int32} : az_p155 C Q (66, lv, .int i :: .ref a :: st, h) ↔ az_mrl (h.1 a) i.toInt (fun x => az_p155 C Q (67, lv, .long x :: st, h)) := az_wp_iff.trans az_go_lal
theorem az_s155_67 : az_p155 C Q (67, lv, st, h) ↔ az_ml (lv 3) (fun x => az_p155 C Q (68, lv, .long x :: st, h)) := az_wp_iff.trans az_go_ldl
theorem az_s155_68 {x y : Int64} : az_p155 C Q (68, lv, .long y :: .long x :: st, h) ↔ az_p155 C Q (69, lv, .long (x + y) :: st, h) := az_wp_iff
theorem az_s155_69 {a : Nat} {i : Int32} {x : Int64} : az_p155 C Q (69, lv, .long x :: .int i :: .ref a :: st, h) ↔ az_mwl (h.1 a) i.toInt x (fun c => az_p155 C Q (70, lv, st, az_uh h a c)) := az_wp_iff.trans az_go_las
theorem az_s155_70 : az_p155 C Q (70, lv, st, h) ↔ az_ma (lv 0) (fun x => az_p155 C Q (71, lv, x :: st, h)) := az_wp_iff.trans az_go_lda
theorem az_s155_71 {a : Nat} : az_p155 C Q (71, lv, .ref a :: st, h) ↔ az_mf (h.1 a) 11 36 (fun v => az_p155 C Q (74, lv, v :: st, h)) := az_wp_iff.trans az_go_gf
theorem az_s155_74 : az_p155 C Q (74, lv, st, h) ↔ az_mi (lv 2) (fun x => az_p155 C Q (75, lv, .int x :: st, h)) := az_wp_iff.trans az_go_ldi
theorem az_s155_75 : az_p155 C Q (75, lv, st, h) ↔ az_ma (lv 0) (fun x => az_p155 C Q (76, lv, x :: st, h)) := az_wp_iff.trans az_go_lda
theorem az_s155_76 {a : Nat} : az_p155 C Q (76, lv, .ref a :: st, h) ↔ az_mf (h.1 a) 11 9 (fun v => az_p155 C Q (79, lv, v :: st, h)) := az_wp_iff.trans az_go_gf
theorem az_s155_79 : az_p155 C Q (79, lv, st, h) ↔ az_mi (lv 1) (fun x => az_p155 C Q (80, lv, .int x :: st, h)) := az_wp_iff.trans az_go_ldi
theorem az_s155_80 {a : Nat} {i : Int32} : az_p155 C Q (80, lv, .int i :: .ref a :: st, h) ↔ az_mr (h.1 a) 0 i.toInt (fun x => az_p155 C Q (81, lv, .int x :: st, h)) := az_wp_iff.trans az_go_ial
theorem az_s155_81 {a : Nat} {i x : Int32} : az_p155 C Q (81, lv, .int x :: .int i :: .ref a :: st, h) ↔ az_mw' (h.1 a) i.toInt x (fun c => az_p155 C Q (82, lv, st, az_uh h a c)) := az_wp_iff.trans az_go_ias
theorem az_s155_82 : az_p155 C Q (82, lv, [], h) ↔ Q none h := az_wp_iff
def az_p156 (C : az_Cl) (Q : Option Value → az_H → Prop) : az_S → Prop := az_wp C (fun _ => none) none (az_fn az_k156) Q
theorem az_s156_0 : az_p156 C Q (0, lv, st, h) ↔ az_ma (lv 0) (fun x => az_p156 C Q (1, lv, x :: st, h)) := az_wp_iff.trans az_go_lda
theorem az_s156_1 {a : Nat} : az_p156 C Q (1, lv, .ref a :: st, h) ↔ az_mf (h.1 a) 11 34 (fun v => az_p156 C Q (4, lv, v :: st, h)) := az_wp_iff.trans az_go_gf
theorem az_s156_4 : az_p156 C Q (4, lv, st, h) ↔ az_mi (lv 2) (fun x => az_p156 C Q (5, lv, .int x :: st, h)) := az_wp_iff.trans az_go_ldi
theorem az_s156_5 {a : Nat} {i : Int32} : az_p156 C Q (5, lv, .int i :: .ref a :: st, h) ↔ az_mrl (h.1 a) i.toInt (fun x => az_p156 C Q (6, lv, .long x :: st, h)) := az_wp_iff.trans az_go_lal
theorem az_s156_6 {x : Int64} : az_p156 C Q (6, lv, .long x :: st, h) ↔ az_p156 C Q (7, (az_s2 lv 3 (.long x)), st, h) := az_wp_iff
theorem az_s156_7 : az_p156 C Q (7, lv, st, h) ↔ az_ml (lv 3) (fun x => az_p156 C Q (8, lv, .long x :: st, h)) := az_wp_iff.trans az_go_ldl
theorem az_s156_8 {x : Int64} : az_p156 C Q (8, lv, .long x :: st, h) ↔ az_p156 C Q (10, (az_s2 lv 5 (.long x)), st, h) := az_wp_iff
theorem az_s156_10 : az_p156 C Q (10, lv, st, h) ↔ az_p156 C Q (11, lv, .int (Int32.ofInt (1)) :: st, h) := az_wp_iff
theorem az_s156_11 {x : Int32} : az_p156 C Q (11, lv, .int x :: st, h) ↔ az_p156 C Q (13, (az_s1 lv 7 (.int x)), st, h) := az_wp_iff
theorem az_s156_13 : az_p156 C Q (13, lv, st, h) ↔ az_mi (lv 7) (fun x => az_p156 C Q (15, lv, .int x :: st, h)) := az_wp_iff.trans az_go_ldi
theorem az_s156_15 : az_p156 C Q (15, lv, st, h) ↔ az_ma (lv 0) (fun x => az_p156 C Q (16, lv, x :: st, h)) := az_wp_iff.trans az_go_lda
theorem az_s156_16 {a : Nat} : az_p156 C Q (16, lv, .ref a :: st, h) ↔ az_mf (h.1 a) 11 13 (fun v => az_p156 C Q (19, lv, v :: st, h)) := az_wp_iff.trans az_go_gf
theorem az_s156_19 : az_p156 C Q (19, lv, st, h) ↔ az_mi (lv 1) (fun x => az_p156 C Q (20, lv, .int x :: st, h)) := az_wp_iff.trans az_go_ldi
theorem az_s156_20 {a : Nat} {i : Int32} : az_p156 C Q (20, lv, .int i :: .ref a :: st, h) ↔ az_mr (h.1 a) 0 i.toInt (fun x => az_p156 C Q (21, lv, .int x :: st, h)) := az_wp_iff.trans az_go_ial
theorem az_s156_21 {x y : Int32} : az_p156 C Q (21, lv, .int y :: .int x :: st, h) ↔ (y ≤ x → az_p156 C Q (53, lv, st, h)) ∧ (¬ y ≤ x → az_p156 C Q (24, lv, st, h)) := az_wp_iff.trans (az_go_if2 az_d_eq)
theorem az_s156_24 : az_p156 C Q (24, lv, st, h) ↔ az_ml (lv 5) (fun x => az_p156 C Q (26, lv, .long x :: st, h)) := az_wp_iff.trans az_go_ldl
theorem az_s156_26 : az_p156 C Q (26, lv, st, h) ↔ az_ml (lv 3) (fun x => az_p156 C Q (27, lv, .long x :: st, h)) := az_wp_iff.trans az_go_ldl
theorem az_s156_27 : az_p156 C Q (27, lv, st, h) ↔ az_ma (lv 0) (fun x => az_p156 C Q (28, lv, x :: st, h)) := az_wp_iff.trans az_go_lda
theorem az_s156_28 {a : Nat} : az_p156 C Q (28, lv, .ref a :: st, h) ↔ az_mf (h.1 a) 11 15 (fun v => az_p156 C Q (31, lv, v :: st, h)) := az_wp_iff.trans az_go_gf
theorem az_s156_31 : az_p156 C Q (31, lv, st, h) ↔ az_p156 C Q (32, lv, .int (Int32.ofInt (3)) :: st, h) := az_wp_iff
theorem az_s156_32 : az_p156 C Q (32, lv, st, h) ↔ az_mi (lv 1) (fun x => az_p156 C Q (33, lv, .int x :: st, h)) := az_wp_iff.trans az_go_ldi
theorem az_s156_33 {x y : Int32} : az_p156 C Q (33, lv, .int y :: .int x :: st, h) ↔ az_p156 C Q (34, lv, .int (x * y) :: st, h) := az_wp_iff
theorem az_s156_34 : az_p156 C Q (34, lv, st, h) ↔ az_mi (lv 7) (fun x => az_p156 C Q (36, lv, .int x :: st, h)) := az_wp_iff.trans az_go_ldi
theorem az_s156_36 {x y : Int32} : az_p156 C Q (36, lv, .int y :: .int x :: st, h) ↔ az_p156 C Q (37, lv, .int (x + y) :: st, h) := az_wp_iff
theorem az_s156_37 {a : Nat} {i : Int32} : az_p156 C Q (37, lv, .int i :: .ref a :: st, h) ↔ az_mr (h.1 a) 0 i.toInt (fun x => az_p156 C Q (38, lv, .int x :: st, h)) := az_wp_iff.trans az_go_ial
theorem az_s156_38 {x : Int32} : az_p156 C Q (38, lv, .int x :: st, h) ↔ az_p156 C Q (39, lv, .long x.toInt64 :: st, h) := az_wp_iff
theorem az_s156_39 {x y : Int64} : az_p156 C Q (39, lv, .long y :: .long x :: st, h) ↔ az_p156 C Q (40, lv, .long (x * y) :: st, h) := az_wp_iff
theorem az_s156_40 : az_p156 C Q (40, lv, st, h) ↔ az_p156 C Q (43, lv, .long (Int64.ofInt (1000)) :: st, h) := az_wp_iff
theorem az_s156_43 {x y : Int64} : az_p156 C Q (43, lv, .long y :: .long x :: st, h) ↔ ¬ y = 0 ∧ az_p156 C Q (44, lv, .long (x / y) :: st, h) := az_wp_iff.trans az_go_ldv
theorem az_s156_44 {x y : Int64} : az_p156 C Q (44, lv, .long y :: .long x :: st, h) ↔ az_p156 C Q (45, lv, .long (x - y) :: st, h) := az_wp_iff
theorem az_s156_45 {x : Int64} : az_p156 C Q (45, lv, .long x :: st, h) ↔ az_p156 C Q (47, (az_s2 lv 5 (.long x)), st, h) := az_wp_iff
theorem az_s156_47 : az_p156 C Q (47, lv, st, h) ↔ az_mi (lv 7) (fun x => az_p156 C Q (50, (az_s1 lv 7 (.int (x + Int32.ofInt (1)))), st, h)) := az_wp_iff.trans az_go_inc
theorem az_s156_50 : az_p156 C Q (50, lv, st, h) ↔ az_p156 C Q (13, lv, st, h) := az_wp_iff
theorem az_s156_53 : az_p156 C Q (53, lv, st, h) ↔ az_ma (lv 0) (fun x => az_p156 C Q (54, lv, x :: st, h)) := az_wp_iff.trans az_go_lda
theorem az_s156_54 {a : Nat} : az_p156 C Q (54, lv, .ref a :: st, h) ↔ az_mf (h.1 a) 11 34 (fun v => az_p156 C Q (57, lv, v :: st, h)) := az_wp_iff.trans az_go_gf
theorem az_s156_57 : az_p156 C Q (57, lv, st, h) ↔ az_mi (lv 2) (fun x => az_p156 C Q (58, lv, .int x :: st, h)) := az_wp_iff.trans az_go_ldi
theorem az_s156_58 : az_p156 C Q (58, lv, st, h) ↔ az_ml (lv 5) (fun x => az_p156 C Q (60, lv, .long x :: st, h)) := az_wp_iff.trans az_go_ldl
theorem az_s156_60 {a : Nat} {i : Int32} {x : Int64} : az_p156 C Q (60, lv, .long x :: .int i :: .ref a :: st, h) ↔ az_mwl (h.1 a) i.toInt x (fun c => az_p156 C Q (61, lv, st, az_uh h a c)) := az_wp_iff.trans az_go_las
theorem az_s156_61 : az_p156 C Q (61, lv, st, h) ↔ az_ma (lv 0) (fun x => az_p156 C Q (62, lv, x :: st, h)) := az_wp_iff.trans az_go_lda
theorem az_s156_62 : az_p156 C Q (62, lv, st, h) ↔ az_mi (lv 1) (fun x => az_p156 C Q (63, lv, .int x :: st, h)) := az_wp_iff.trans az_go_ldi
theorem az_s156_63 : az_p156 C Q (63, lv, st, h) ↔ az_ml (lv 5) (fun x => az_p156 C Q (65, lv, .long x :: st, h)) := az_wp_iff.trans az_go_ldl
theorem az_s156_65 : az_p156 C Q (65, lv, st, h) ↔ az_ma (lv 0) (fun x => az_p156 C Q (66, lv, x :: st, h)) := az_wp_iff.trans az_go_lda
theorem az_s156_66 {a : Nat} : az_p156 C Q (66, lv, .ref a :: st, h) ↔ az_mf (h.1 a) 11 35 (fun v => az_p156 C Q (69, lv, v :: st, h)) := az_wp_iff.trans az_go_gf
theorem az_s156_69 : az_p156 C Q (69, lv, st, h) ↔ az_mi (lv 2) (fun x => az_p156 C Q (70, lv, .int x :: st, h)) := az_wp_iff.trans az_go_ldi
theorem az_s156_70 {a : Nat} {i : Int32} : az_p156 C Q (70, lv, .int i :: .ref a :: st, h) ↔ az_mr (h.1 a) 0 i.toInt (fun x => az_p156 C Q (71, lv, .int x :: st, h)) := az_wp_iff.trans az_go_ial
theorem az_s156_71 : az_p156 C Q (71, lv, st, h) ↔ az_p156 C Q (72, lv, .int (Int32.ofInt (0)) :: st, h) := az_wp_iff
theorem az_s156_72 {a : Nat} {v1 v2 v3 v4 : Value} : az_p156 C Q (72, lv, v4 :: v3 :: v2 :: v1 :: .ref a :: st, h) ↔ az_isob (h.1 a) 11 = true ∧ az_cat st ≤ 8 ∧ az_mc C 153 [.ref a, v1, v2, v3, v4] h (fun v h' => az_p156 C Q (75, lv, v ++ st, h')) := az_wp_iff.trans (az_go_if.trans (and_congr Iff.rfl az_go_call))
theorem az_s156_75 : az_p156 C Q (75, lv, st, h) ↔ az_p156 C Q (76, lv, .int (Int32.ofInt (1)) :: st, h) := az_wp_iff
theorem az_s156_76 {x : Int32} : az_p156 C Q (76, lv, .int x :: st, h) ↔ az_p156 C Q (78, (az_s1 lv 7 (.int x)), st, h) := az_wp_iff
theorem az_s156_78 : az_p156 C Q (78, lv, st, h) ↔ az_mi (lv 7) (fun x => az_p156 C Q (80, lv, .int x :: st, h)) := az_wp_iff.trans az_go_ldi
theorem az_s156_80 : az_p156 C Q (80, lv, st, h) ↔ az_ma (lv 0) (fun x => az_p156 C Q (81, lv, x :: st, h)) := az_wp_iff.trans az_go_lda
theorem az_s156_81 {a : Nat} : az_p156 C Q (81, lv, .ref a :: st, h) ↔ az_mf (h.1 a) 11 13 (fun v => az_p156 C Q (84, lv, v :: st, h)) := az_wp_iff.trans az_go_gf
theorem az_s156_84 : az_p156 C Q (84, lv, st, h) ↔ az_mi (lv 1) (fun x => az_p156 C Q (85, lv, .int x :: st, h)) := az_wp_iff.trans az_go_ldi
theorem az_s156_85 {a : Nat} {i : Int32} : az_p156 C Q (85, lv, .int i :: .ref a :: st, h) ↔ az_mr (h.1 a) 0 i.toInt (fun x => az_p156 C Q (86, lv, .int x :: st, h)) := az_wp_iff.trans az_go_ial
theorem az_s156_86 {x y : Int32} : az_p156 C Q (86, lv, .int y :: .int x :: st, h) ↔ (y ≤ x → az_p156 C Q (163, lv, st, h)) ∧ (¬ y ≤ x → az_p156 C Q (89, lv, st, h)) := az_wp_iff.trans (az_go_if2 az_d_eq)
theorem az_s156_89 : az_p156 C Q (89, lv, st, h) ↔ az_ml (lv 3) (fun x => az_p156 C Q (90, lv, .long x :: st, h)) := az_wp_iff.trans az_go_ldl
theorem az_s156_90 : az_p156 C Q (90, lv, st, h) ↔ az_ma (lv 0) (fun x => az_p156 C Q (91, lv, x :: st, h)) := az_wp_iff.trans az_go_lda
theorem az_s156_91 {a : Nat} : az_p156 C Q (91, lv, .ref a :: st, h) ↔ az_mf (h.1 a) 11 15 (fun v => az_p156 C Q (94, lv, v :: st, h)) := az_wp_iff.trans az_go_gf
theorem az_s156_94 : az_p156 C Q (94, lv, st, h) ↔ az_p156 C Q (95, lv, .int (Int32.ofInt (3)) :: st, h) := az_wp_iff
theorem az_s156_95 : az_p156 C Q (95, lv, st, h) ↔ az_mi (lv 1) (fun x => az_p156 C Q (96, lv, .int x :: st, h)) := az_wp_iff.trans az_go_ldi
theorem az_s156_96 {x y : Int32} : az_p156 C Q (96, lv, .int y :: .int x :: st, h) ↔ az_p156 C Q (97, lv, .int (x * y) :: st, h) := az_wp_iff
theorem az_s156_97 : az_p156 C Q (97, lv, st, h) ↔ az_mi (lv 7) (fun x => az_p156 C Q (99, lv, .int x :: st, h)) := az_wp_iff.trans az_go_ldi
theorem az_s156_99 {x y : Int32} : az_p156 C Q (99, lv, .int y :: .int x :: st, h) ↔ az_p156 C Q (100, lv, .int (x + y) :: st, h) := az_wp_iff
theorem az_s156_100 {a : Nat} {i : Int32} : az_p156 C Q (100, lv, .int i :: .ref a :: st, h) ↔ az_mr (h.1 a) 0 i.toInt (fun x => az_p156 C Q (101, lv, .int x :: st, h)) := az_wp_iff.trans az_go_ial
theorem az_s156_101 {x : Int32} : az_p156 C Q (101, lv, .int x :: st, h) ↔ az_p156 C Q (102, lv, .long x.toInt64 :: st, h) := az_wp_iff
theorem az_s156_102 {x y : Int64} : az_p156 C Q (102, lv, .long y :: .long x :: st, h) ↔ az_p156 C Q (103, lv, .long (x * y) :: st, h) := az_wp_iff
theorem az_s156_103 : az_p156 C Q (103, lv, st, h) ↔ az_p156 C Q (106, lv, .long (Int64.ofInt (1000)) :: st, h) := az_wp_iff
theorem az_s156_106 {x y : Int64} : az_p156 C Q (106, lv, .long y :: .long x :: st, h) ↔ ¬ y = 0 ∧ az_p156 C Q (107, lv, .long (x / y) :: st, h) := az_wp_iff.trans az_go_ldv
theorem az_s156_107 {x : Int64} : az_p156 C Q (107, lv, .long x :: st, h) ↔ az_p156 C Q (109, (az_s2 lv 8 (.long x)), st, h) := az_wp_iff
theorem az_s156_109 : az_p156 C Q (109, lv, st, h) ↔ az_ma (lv 0) (fun x => az_p156 C Q (110, lv, x :: st, h)) := az_wp_iff.trans az_go_lda
theorem az_s156_110 {a : Nat} : az_p156 C Q (110, lv, .ref a :: st, h) ↔ az_mf (h.1 a) 11 35 (fun v => az_p156 C Q (113, lv, v :: st, h)) := az_wp_iff.trans az_go_gf
theorem az_s156_113 : az_p156 C Q (113, lv, st, h) ↔ az_mi (lv 2) (fun x => az_p156 C Q (114, lv, .int x :: st, h)) := az_wp_iff.trans az_go_ldi
theorem az_s156_114 {a : Nat} {i : Int32} : az_p156 C Q (114, lv, .int i :: .ref a :: st, h) ↔ az_mr (h.1 a) 0 i.toInt (fun x => az_p156 C Q (115, lv, .int x :: st, h)) := az_wp_iff.trans az_go_ial
theorem az_s156_115 : az_p156 C Q (115, lv, st, h) ↔ az_mi (lv 7) (fun x => az_p156 C Q (117, lv, .int x :: st, h)) := az_wp_iff.trans az_go_ldi
theorem az_s156_117 {x y : Int32} : az_p156 C Q (117, lv, .int y :: .int x :: st, h) ↔ az_p156 C Q (118, lv, .int (x + y) :: st, h) := az_wp_iff
theorem az_s156_118 : az_p156 C Q (118, lv, st, h) ↔ az_p156 C Q (120, lv, .int (Int32.ofInt (9)) :: st, h) := az_wp_iff
theorem az_s156_120 {x y : Int32} : az_p156 C Q (120, lv, .int y :: .int x :: st, h) ↔ (x ≤ y → az_p156 C Q (128, lv, st, h)) ∧ (¬ x ≤ y → az_p156 C Q (123, lv, st, h)) := az_wp_iff.trans (az_go_if2 az_d_eq)
theorem az_s156_123 : az_p156 C Q (123, lv, st, h) ↔ az_p156 C Q (125, lv, .int (Int32.ofInt (9)) :: st, h) := az_wp_iff
theorem az_s156_125 : az_p156 C Q (125, lv, st, h) ↔ az_p156 C Q (137, lv, st, h) := az_wp_iff
theorem az_s156_128 : az_p156 C Q (128, lv, st, h) ↔ az_ma (lv 0) (fun x => az_p156 C Q (129, lv, x :: st, h)) := az_wp_iff.trans az_go_lda
theorem az_s156_129 {a : Nat} : az_p156 C Q (129, lv, .ref a :: st, h) ↔ az_mf (h.1 a) 11 35 (fun v => az_p156 C Q (132, lv, v :: st, h)) := az_wp_iff.trans az_go_gf
theorem az_s156_132 : az_p156 C Q (132, lv, st, h) ↔ az_mi (lv 2) (fun x => az_p156 C Q (133, lv, .int x :: st, h)) := az_wp_iff.trans az_go_ldi
theorem az_s156_133 {a : Nat} {i : Int32} : az_p156 C Q (133, lv, .int i :: .ref a :: st, h) ↔ az_mr (h.1 a) 0 i.toInt (fun x => az_p156 C Q (134, lv, .int x :: st, h)) := az_wp_iff.trans az_go_ial
theorem az_s156_134 : az_p156 C Q (134, lv, st, h) ↔ az_mi (lv 7) (fun x => az_p156 C Q (136, lv, .int x :: st, h)) := az_wp_iff.trans az_go_ldi
theorem az_s156_136 {x y : Int32} : az_p156 C Q (136, lv, .int y :: .int x :: st, h) ↔ az_p156 C Q (137, lv, .int (x + y) :: st, h) := az_wp_iff
theorem az_s156_137 {x : Int32} : az_p156 C Q (137, lv, .int x :: st, h) ↔ az_p156 C Q (139, (az_s1 lv 10 (.int x)), st, h) := az_wp_iff
theorem az_s156_139 : az_p156 C Q (139, lv, st, h) ↔ az_ml (lv 8) (fun x => az_p156 C Q (141, lv, .long x :: st, h)) := az_wp_iff.trans az_go_ldl
theorem az_s156_141 : az_p156 C Q (141, lv, st, h) ↔ az_p156 C Q (142, lv, .long (Int64.ofInt (0)) :: st, h) := az_wp_iff
theorem az_s156_142 {x y : Int64} : az_p156 C Q (142, lv, .long y :: .long x :: st, h) ↔ az_p156 C Q (143, lv, .int (lg_cmp x y) :: st, h) := az_wp_iff
theorem az_s156_143 {x : Int32} : az_p156 C Q (143, lv, .int x :: st, h) ↔ (x ≤ 0 → az_p156 C Q (157, lv, st, h)) ∧ (¬ x ≤ 0 → az_p156 C Q (146, lv, st, h)) := az_wp_iff.trans (az_go_if1 az_d_eq)
theorem az_s156_146 : az_p156 C Q (146, lv, st, h) ↔ az_ma (lv 0) (fun x => az_p156 C Q (147, lv, x :: st, h)) := az_wp_iff.trans az_go_lda
theorem az_s156_147 : az_p156 C Q (147, lv, st, h) ↔ az_mi (lv 1) (fun x => az_p156 C Q (148, lv, .int x :: st, h)) := az_wp_iff.trans az_go_ldi
theorem az_s156_148 : az_p156 C Q (148, lv, st, h) ↔ az_ml (lv 8) (fun x => az_p156 C Q (150, lv, .long x :: st, h)) := az_wp_iff.trans az_go_ldl
theorem az_s156_150 : az_p156 C Q (150, lv, st, h) ↔ az_mi (lv 10) (fun x => az_p156 C Q (152, lv, .int x :: st, h)) := az_wp_iff.trans az_go_ldi
theorem az_s156_152 : az_p156 C Q (152, lv, st, h) ↔ az_mi (lv 7) (fun x => az_p156 C Q (154, lv, .int x :: st, h)) := az_wp_iff.trans az_go_ldi
theorem az_s156_154 {a : Nat} {v1 v2 v3 v4 : Value} : az_p156 C Q (154, lv, v4 :: v3 :: v2 :: v1 :: .ref a :: st, h) ↔ az_isob (h.1 a) 11 = true ∧ az_cat st ≤ 8 ∧ az_mc C 153 [.ref a, v1, v2, v3, v4] h (fun v h' => az_p156 C Q (157, lv, v ++ st, h')) := az_wp_iff.trans (az_go_if.trans (and_congr Iff.rfl az_go_call))
theorem az_s156_157 : az_p156 C Q (157, lv, st, h) ↔ az_mi (lv 7) (fun x => az_p156 C Q (160, (az_s1 lv 7 (.int (x + Int32.ofInt (1)))), st, h)) := az_wp_iff.trans az_go_inc
theorem az_s156_160 : az_p156 C Q (160, lv, st, h) ↔ az_p156 C Q (78, lv, st, h) := az_wp_iff
theorem az_s156_163 : az_p156 C Q (163, lv, [], h) ↔ Q none h := az_wp_iff
def az_p157 (C : az_Cl) (Q : Option Value → az_H → Prop) : az_S → Prop := az_wp C (fun _ => none) (some .int) (az_fn az_k157) Q
theorem az_s157_0 : az_p157 C Q (0, lv, st, h) ↔ az_ml (lv 0) (fun x => az_p157 C Q (1, lv, .long x :: st, h)) := az_wp_iff.trans az_go_ldl
theorem az_s157_1 : az_p157 C Q (1, lv, st, h) ↔ az_ml (lv 2) (fun x => az_p157 C Q (2, lv, .long x :: st, h)) := az_wp_iff.trans az_go_ldl
theorem az_s157_2 {x y : Int64} : az_p157 C Q (2, lv, .long y :: .long x :: st, h) ↔ ¬ y = 0 ∧ az_p157 C Q (3, lv, .long (x / y) :: st, h) := az_wp_iff.trans az_go_ldv
theorem az_s157_3 {x : Int64} : az_p157 C Q (3, lv, .long x :: st, h) ↔ az_p157 C Q (5, (az_s2 lv 4 (.long x)), st, h) := az_wp_iff
theorem az_s157_5 : az_p157 C Q (5, lv, st, h) ↔ az_p157 C Q (8, lv, .long (Int64.ofInt (2)) :: st, h) := az_wp_iff
theorem az_s157_8 : az_p157 C Q (8, lv, st, h) ↔ az_ml (lv 0) (fun x => az_p157 C Q (9, lv, .long x :: st, h)) := az_wp_iff.trans az_go_ldl
theorem az_s157_9 : az_p157 C Q (9, lv, st, h) ↔ az_ml (lv 4) (fun x => az_p157 C Q (11, lv, .long x :: st, h)) := az_wp_iff.trans az_go_ldl
theorem az_s157_11 : az_p157 C Q (11, lv, st, h) ↔ az_ml (lv 2) (fun x => az_p157 C Q (12, lv, .long x :: st, h)) := az_wp_iff.trans az_go_ldl
theorem az_s157_12 {x y : Int64} : az_p157 C Q (12, lv, .long y :: .long x :: st, h) ↔ az_p157 C Q (13, lv, .long (x * y) :: st, h) := az_wp_iff
theorem az_s157_13 {x y : Int64} : az_p157 C Q (13, lv, .long y :: .long x :: st, h) ↔ az_p157 C Q (14, lv, .long (x - y) :: st, h) := az_wp_iff
theorem az_s157_14 {x y : Int64} : az_p157 C Q (14, lv, .long y :: .long x :: st, h) ↔ az_p157 C Q (15, lv, .long (x * y) :: st, h) := az_wp_iff
theorem az_s157_15 {x : Int64} : az_p157 C Q (15, lv, .long x :: st, h) ↔ az_p157 C Q (17, (az_s2 lv 6 (.long x)), st, h) := az_wp_iff
theorem az_s157_17 : az_p157 C Q (17, lv, st, h) ↔ az_ml (lv 6) (fun x => az_p157 C Q (19, lv, .long x :: st, h)) := az_wp_iff.trans az_go_ldl
theorem az_s157_19 : az_p157 C Q (19, lv, st, h) ↔ az_ml (lv 2) (fun x => az_p157 C Q (20, lv, .long x :: st, h)) := az_wp_iff.trans az_go_ldl
theorem az_s157_20 {x y : Int64} : az_p157 C Q (20, lv, .long y :: .long x :: st, h) ↔ az_p157 C Q (21, lv, .int (lg_cmp x y) :: st, h) := az_wp_iff
theorem az_s157_21 {x : Int32} : az_p157 C Q (21, lv, .int x :: st, h) ↔ (0 < x → az_p157 C Q (42, lv, st, h)) ∧ (¬ 0 < x → az_p157 C Q (24, lv, st, h)) := az_wp_iff.trans (az_go_if1 az_d_eq)
theorem az_s157_24 : az_p157 C Q (24, lv, st, h) ↔ az_ml (lv 6) (fun x => az_p157 C Q (26, lv, .long x :: st, h)) := az_wp_iff.trans az_go_ldl
theorem az_s157_26 : az_p157 C Q (26, lv, st, h) ↔ az_ml (lv 2) (fun x => az_p157 C Q (27, lv, .long x :: st, h)) := az_wp_iff.trans az_go_ldl
theorem az_s157_27 {x y : Int64} : az_p157 C Q (27, lv, .long y :: .long x :: st, h) ↔ az_p157 C Q (28, lv, .int (lg_cmp x y) :: st, h) := az_wp_iff
theorem az_s157_28 {x : Int32} : az_p157 C Q (28, lv, .int x :: st, h) ↔ (¬ x = 0 → az_p157 C Q (49, lv, st, h)) ∧ (¬ ¬ x = 0 → az_p157 C Q (31, lv, st, h)) := az_wp_iff.trans (az_go_if1 az_d_eq)
theorem az_s157_31 : az_p157 C Q (31, lv, st, h) ↔ az_ml (lv 4) (fun x => az_p157 C Q (33, lv, .long x :: st, h)) := az_wp_iff.trans az_go_ldl
theorem az_s157_33 : az_p157 C Q (33, lv, st, h) ↔ az_p157 C Q (36, lv, .long (Int64.ofInt (2)) :: st, h) := az_wp_iff
theorem az_s157_36 {x y : Int64} : az_p157 C Q (36, lv, .long y :: .long x :: st, h) ↔ ¬ y = 0 ∧ az_p157 C Q (37, lv, .long (x - x / y * y) :: st, h) := az_wp_iff.trans (az_go_ldv (f := fun x y => x - x / y * y))
theorem az_s157_37 : az_p157 C Q (37, lv, st, h) ↔ az_p157 C Q (38, lv, .long (Int64.ofInt (1)) :: st, h) := az_wp_iff
theorem az_s157_38 {x y : Int64} : az_p157 C Q (38, lv, .long y :: .long x :: st, h) ↔ az_p157 C Q (39, lv, .int (lg_cmp x y) :: st, h) := az_wp_iff
theorem az_s157_39 {x : Int32} : az_p157 C Q (39, lv, .int x :: st, h) ↔ (¬ x = 0 → az_p157 C Q (49, lv, st, h)) ∧ (¬ ¬ x = 0 → az_p157 C Q (42, lv, st, h)) := az_wp_iff.trans (az_go_if1 az_d_eq)
theorem az_s157_42 : az_p157 C Q (42, lv, st, h) ↔ az_ml (lv 4) (fun x => az_p157 C Q (44, lv, .long x :: st, h)) := az_wp_iff.trans az_go_ldl
theorem az_s157_44 : az_p157 C Q (44, lv, st, h) ↔ az_p157 C Q (45, lv, .long (Int64.ofInt (1)) :: st, h) := az_wp_iff
theorem az_s157_45 {x y : Int64} : az_p157 C Q (45, lv, .long y :: .long x :: st, h) ↔ az_p157 C Q (46, lv, .long (x + y) :: st, h) := az_wp_iff
theorem az_s157_46 : az_p157 C Q (46, lv, st, h) ↔ az_p157 C Q (51, lv, st, h) := az_wp_iff
theorem az_s157_49 : az_p157 C Q (49, lv, st, h) ↔ az_ml (lv 4) (fun x => az_p157 C Q (51, lv, .long x :: st, h)) := az_wp_iff.trans az_go_ldl
theorem az_s157_51 {x : Int64} : az_p157 C Q (51, lv, .long x :: st, h) ↔ az_p157 C Q (52, lv, .int x.toInt32 :: st, h) := az_wp_iff
theorem az_s157_52 {x : Int32} : az_p157 C Q (52, lv, [.int x], h) ↔ Q (some (.int x)) h := az_wp_iff
def az_p158 (C : az_Cl) (Q : Option Value → az_H → Prop) : az_S → Prop := az_wp C (fun _ => none) none (az_fn az_k158) Q
theorem az_s158_0 : az_p158 C Q (0, lv, st, h) ↔ az_ma (lv 0) (fun x => az_p158 C Q (1, lv, x :: st, h)) := az_wp_iff.trans az_go_lda
theorem az_s158_1 {a : Nat} : az_p158 C Q (1, lv, .ref a :: st, h) ↔ az_mf (h.1 a) 11 34 (fun v => az_p158 C Q (4, lv, v :: st, h)) := az_wp_iff.trans az_go_gf
theorem az_s158_4 : az_p158 C Q (4, lv, st, h) ↔ az_mi (lv 1) (fun x => az_p158 C Q (5, lv, .int x :: st, h)) := az_wp_iff.trans az_go_ldi
theorem az_s158_5 {a : Nat} {i : Int32} : az_p158 C Q (5, lv, .int i :: .ref a :: st, h) ↔ az_mrl (h.1 a) i.toInt (fun x => az_p158 C Q (6, lv, .long x :: st, h)) := az_wp_iff.trans az_go_lal
theorem az_s158_6 {x : Int64} : az_p158 C Q (6, lv, .long x :: st, h) ↔ az_p158 C Q (7, (az_s2 lv 3 (.long x)), st, h) := az_wp_iff
theorem az_s158_7 : az_p158 C Q (7, lv, st, h) ↔ az_ma (lv 0) (fun x => az_p158 C Q (8, lv, x :: st, h)) := az_wp_iff.trans az_go_lda
theorem az_s158_8 {a : Nat} : az_p158 C Q (8, lv, .ref a :: st, h) ↔ az_mf (h.1 a) 11 34 (fun v => az_p158 C Q (11, lv, v :: st, h)) := az_wp_iff.trans az_go_gf
theorem az_s158_11 : az_p158 C Q (11, lv, st, h) ↔ az_mi (lv 2) (fun x => az_p158 C Q (12, lv, .int x :: st, h)) := az_wp_iff.trans az_go_ldi
theorem az_s158_12 {a : Nat} {i : Int32} : az_p158 C Q (12, lv, .int i :: .ref a :: st, h) ↔ az_mrl (h.1 a) i.toInt (fun x => az_p158 C Q (13, lv, .long x :: st, h)) := az_wp_iff.trans az_go_lal
theorem az_s158_13 {x : Int64} : az_p158 C Q (13, lv, .long x :: st, h) ↔ az_p158 C Q (15, (az_s2 lv 5 (.long x)), st, h) := az_wp_iff
theorem az_s158_15 : az_p158 C Q (15, lv, st, h) ↔ az_ml (lv 3) (fun x => az_p158 C Q (16, lv, .long x :: st, h)) := az_wp_iff.trans az_go_ldl
theorem az_s158_16 : az_p158 C Q (16, lv, st, h) ↔ az_ml (lv 5) (fun x => az_p158 C Q (18, lv, .long x :: st, h)) := az_wp_iff.trans az_go_ldl
theorem az_s158_18 {x y : Int64} : az_p158 C Q (18, lv, .long y :: .long x :: st, h) ↔ az_p158 C Q (19, lv, .long (x + y) :: st, h) := az_wp_iff
theorem az_s158_19 {x : Int64} : az_p158 C Q (19, lv, .long x :: st, h) ↔ az_p158 C Q (21, (az_s2 lv 7 (.long x)), st, h) := az_wp_iff
theorem az_s158_21 : az_p158 C Q (21, lv, st, h) ↔ az_p158 C Q (22, lv, .int (Int32.ofInt (0)) :: st, h) := az_wp_iff
theorem az_s158_22 {x : Int32} : az_p158 C Q (22, lv, .int x :: st, h) ↔ az_p158 C Q (24, (az_s1 lv 9 (.int x)), st, h) := az_wp_iff
theorem az_s158_24 : az_p158 C Q (24, lv, st, h) ↔ az_p158 C Q (25, lv, .int (Int32.ofInt (0)) :: st, h) := az_wp_iff
theorem az_s158_25 {x : Int32} : az_p158 C Q (25, lv, .int x :: st, h) ↔ az_p158 C Q (27, (az_s1 lv 10 (.int x)), st, h) := az_wp_iff
theorem az_s158_27 : az_p158 C Q (27, lv, st, h) ↔ az_mi (lv 10) (fun x => az_p158 C Q (29, lv, .int x :: st, h)) := az_wp_iff.trans az_go_ldi
theorem az_s158_29 : az_p158 C Q (29, lv, st, h) ↔ az_p158 C Q (30, lv, .int (Int32.ofInt (4)) :: st, h) := az_wp_iff
theorem az_s158_30 {x y : Int32} : az_p158 C Q (30, lv, .int y :: .int x :: st, h) ↔ (y ≤ x → az_p158 C Q (100, lv, st, h)) ∧ (¬ y ≤ x → az_p158 C Q (33, lv, st, h)) := az_wp_iff.trans (az_go_if2 az_d_eq)
theorem az_s158_33 : az_p158 C Q (33, lv, st, h) ↔ az_ma (lv 0) (fun x => az_p158 C Q (34, lv, x :: st, h)) := az_wp_iff.trans az_go_lda
theorem az_s158_34 {a : Nat} : az_p158 C Q (34, lv, .ref a :: st, h) ↔ az_mf (h.1 a) 11 37 (fun v => az_p158 C Q (37, lv, v :: st, h)) := az_wp_iff.trans az_go_gf
theorem az_s158_37 : az_p158 C Q (37, lv, st, h) ↔ az_p158 C Q (38, lv, .int (Int32.ofInt (4)) :: st, h) := az_wp_iff
theorem az_s158_38 : az_p158 C Q (38, lv, st, h) ↔ az_mi (lv 1) (fun x => az_p158 C Q (39, lv, .int x :: st, h)) := az_wp_iff.trans az_go_ldi
theorem az_s158_39 {x y : Int32} : az_p158 C Q (39, lv, .int y :: .int x :: st, h) ↔ az_p158 C Q (40, lv, .int (x * y) :: st, h) := az_wp_iff
theorem az_s158_40 : az_p158 C Q (40, lv, st, h) ↔ az_mi (lv 10) (fun x => az_p158 C Q (42, lv, .int x :: st, h)) := az_wp_iff.trans az_go_ldi
theorem az_s158_42 {x y : Int32} : az_p158 C Q (42, lv, .int y :: .int x :: st, h) ↔ az_p158 C Q (43, lv, .int (x + y) :: st, h) := az_wp_iff
theorem az_s158_43 : az_p158 C Q (43, lv, st, h) ↔ az_ma (lv 0) (fun x => az_p158 C Q (44, lv, x :: st, h)) := az_wp_iff.trans az_go_lda
theorem az_s158_44 {a : Nat} : az_p158 C Q (44, lv, .ref a :: st, h) ↔ az_mf (h.1 a) 11 37 (fun v => az_p158 C Q (47, lv, v :: st, h)) := az_wp_iff.trans az_go_gf
theorem az_s158_47 : az_p158 C Q (47, lv, st, h) ↔ az_p158 C Q (48, lv, .int (Int32.ofInt (4)) :: st, h) := az_wp_iff
theorem az_s158_48 : az_p158 C Q (48, lv, st, h) ↔ az_mi (lv 1) (fun x => az_p158 C Q (49, lv, .int x :: st, h)) := az_wp_iff.trans az_go_ldi
theorem az_s158_49 {x y : Int32} : az_p158 C Q (49, lv, .int y :: .int x :: st, h) ↔ az_p158 C Q (50, lv, .int (x * y) :: st, h) := az_wp_iff
theorem az_s158_50 : az_p158 C Q (50, lv, st, h) ↔ az_mi (lv 10) (fun x => az_p158 C Q (52, lv, .int x :: st, h)) := az_wp_iff.trans az_go_ldi
theorem az_s158_52 {x y : Int32} : az_p158 C Q (52, lv, .int y :: .int x :: st, h) ↔ az_p158 C Q (53, lv, .int (x + y) :: st, h) := az_wp_iff
theorem az_s158_53 {a : Nat} {i : Int32} : az_p158 C Q (53, lv, .int i :: .ref a :: st, h) ↔ az_mr (h.1 a) 0 i.toInt (fun x => az_p158 C Q (54, lv, .int x :: st, h)) := az_wp_iff.trans az_go_ial
theorem az_s158_54 {x : Int32} : az_p158 C Q (54, lv, .int x :: st, h) ↔ az_p158 C Q (55, lv, .long x.toInt64 :: st, h) := az_wp_iff
theorem az_s158_55 : az_p158 C Q (55, lv, st, h) ↔ az_ml (lv 3) (fun x => az_p158 C Q (56, lv, .long x :: st, h)) := az_wp_iff.trans az_go_ldl
theorem az_s158_56 {x y : Int64} : az_p158 C Q (56, lv, .long y :: .long x :: st, h) ↔ az_p158 C Q (57, lv, .long (x * y) :: st, h) := az_wp_iff
theorem az_s158_57 : az_p158 C Q (57, lv, st, h) ↔ az_ma (lv 0) (fun x => az_p158 C Q (58, lv, x :: st, h)) := az_wp_iff.trans az_go_lda
theorem az_s158_58 {a : Nat} : az_p158 C Q (58, lv, .ref a :: st, h) ↔ az_mf (h.1 a) 11 37 (fun v => az_p158 C Q (61, lv, v :: st, h)) := az_wp_iff.trans az_go_gf
theorem az_s158_61 : az_p158 C Q (61, lv, st, h) ↔ az_p158 C Q (62, lv, .int (Int32.ofInt (4)) :: st, h) := az_wp_iff
theorem az_s158_62 : az_p158 C Q (62, lv, st, h) ↔ az_mi (lv 2) (fun x => az_p158 C Q (63, lv, .int x :: st, h)) := az_wp_iff.trans az_go_ldi
theorem az_s158_63 {x y : Int32} : az_p158 C Q (63, lv, .int y :: .int x :: st, h) ↔ az_p158 C Q (64, lv, .int (x * y) :: st, h) := az_wp_iff
theorem az_s158_64 : az_p158 C Q (64, lv, st, h) ↔ az_mi (lv 10) (fun x => az_p158 C Q (66, lv, .int x :: st, h)) := az_wp_iff.trans az_go_ldi
theorem az_s158_66 {x y : Int32} : az_p158 C Q (66, lv, .int y :: .int x :: st, h) ↔ az_p158 C Q (67, lv, .int (x + y) :: st, h) := az_wp_iff
theorem az_s158_67 {a : Nat} {i : Int32} : az_p158 C Q (67, lv, .int i :: .ref a :: st, h) ↔ az_mr (h.1 a) 0 i.toInt (fun x => az_p158 C Q (68, lv, .int x :: st, h)) := az_wp_iff.trans az_go_ial
theorem az_s158_68 {x : Int32} : az_p158 C Q (68, lv, .int x :: st, h) ↔ az_p158 C Q (69, lv, .long x.toInt64 :: st, h) := az_wp_iff
theorem az_s158_69 : az_p158 C Q (69, lv, st, h) ↔ az_ml (lv 5) (fun x => az_p158 C Q (71, lv, .long x :: st, h)) := az_wp_iff.trans az_go_ldl
theorem az_s158_71 {x y : Int64} : az_p158 C Q (71, lv, .long y :: .long x :: st, h) ↔ az_p158 C Q (72, lv, .long (x * y) :: st, h) := az_wp_iff
theorem az_s158_72 {x y : Int64} : az_p158 C Q (72, lv, .long y :: .long x :: st, h) ↔ az_p158 C Q (73, lv, .long (x + y) :: st, h) := az_wp_iff
theorem az_s158_73 : az_p158 C Q (73, lv, st, h) ↔ az_ml (lv 7) (fun x => az_p158 C Q (75, lv, .long x :: st, h)) := az_wp_iff.trans az_go_ldl
theorem az_s158_75 {x y : Int64} : az_p158 C Q (75, lv, .long y :: .long x :: st, h) ↔ ¬ y = 0 ∧ az_p158 C Q (76, lv, .long (x / y) :: st, h) := az_wp_iff.trans az_go_ldv
theorem az_s158_76 {x : Int64} : az_p158 C Q (76, lv, .long x :: st, h) ↔ az_p158 C Q (77, lv, .int x.toInt32 :: st, h) := az_wp_iff
theorem az_s158_77 {a : Nat} {i x : Int32} : az_p158 C Q (77, lv, .int x :: .int i :: .ref a :: st, h) ↔ az_mw' (h.1 a) i.toInt x (fun c => az_p158 C Q (78, lv, st, az_uh h a c)) := az_wp_iff.trans az_go_ias
theorem az_s158_78 : az_p158 C Q (78, lv, st, h) ↔ az_mi (lv 9) (fun x => az_p158 C Q (80, lv, .int x :: st, h)) := az_wp_iff.trans az_go_ldi
theorem az_s158_80 : az_p158 C Q (80, lv, st, h) ↔ az_ma (lv 0) (fun x => az_p158 C Q (81, lv, x :: st, h)) := az_wp_iff.trans az_go_lda
theorem az_s158_81 {a : Nat} : az_p158 C Q (81, lv, .ref a :: st, h) ↔ az_mf (h.1 a) 11 37 (fun v => az_p158 C Q (84, lv, v :: st, h)) := az_wp_iff.trans az_go_gf
theorem az_s158_84 : az_p158 C Q (84, lv, st, h) ↔ az_p158 C Q (85, lv, .int (Int32.ofInt (4)) :: st, h) := az_wp_iff
theorem az_s158_85 : az_p158 C Q (85, lv, st, h) ↔ az_mi (lv 1) (fun x => az_p158 C Q (86, lv, .int x :: st, h)) := az_wp_iff.trans az_go_ldi
theorem az_s158_86 {x y : Int32} : az_p158 C Q (86, lv, .int y :: .int x :: st, h) ↔ az_p158 C Q (87, lv, .int (x * y) :: st, h) := az_wp_iff
theorem az_s158_87 : az_p158 C Q (87, lv, st, h) ↔ az_mi (lv 10) (fun x => az_p158 C Q (89, lv, .int x :: st, h)) := az_wp_iff.trans az_go_ldi
theorem az_s158_89 {x y : Int32} : az_p158 C Q (89, lv, .int y :: .int x :: st, h) ↔ az_p158 C Q (90, lv, .int (x + y) :: st, h) := az_wp_iff
theorem az_s158_90 {a : Nat} {i : Int32} : az_p158 C Q (90, lv, .int i :: .ref a :: st, h) ↔ az_mr (h.1 a) 0 i.toInt (fun x => az_p158 C Q (91, lv, .int x :: st, h)) := az_wp_iff.trans az_go_ial
theorem az_s158_91 {x y : Int32} : az_p158 C Q (91, lv, .int y :: .int x :: st, h) ↔ az_p158 C Q (92, lv, .int (x + y) :: st, h) := az_wp_iff
theorem az_s158_92 {x : Int32} : az_p158 C Q (92, lv, .int x :: st, h) ↔ az_p158 C Q (94, (az_s1 lv 9 (.int x)), st, h) := az_wp_iff
theorem az_s158_94 : az_p158 C Q (94, lv, st, h) ↔ az_mi (lv 10) (fun x => az_p158 C Q (97, (az_s1 lv 10 (.int (x + Int32.ofInt (1)))), st, h)) := az_wp_iff.trans az_go_inc
theorem az_s158_97 : az_p158 C Q (97, lv, st, h) ↔ az_p158 C Q (27, lv, st, h) := az_wp_iff
theorem az_s158_100 : az_p158 C Q (100, lv, st, h) ↔ az_p158 C Q (101, lv, .int (Int32.ofInt (0)) :: st, h) := az_wp_iff
theorem az_s158_101 {x : Int32} : az_p158 C Q (101, lv, .int x :: st, h) ↔ az_p158 C Q (103, (az_s1 lv 10 (.int x)), st, h) := az_wp_iff
theorem az_s158_103 : az_p158 C Q (103, lv, st, h) ↔ az_p158 C Q (104, lv, .int (Int32.ofInt (1)) :: st, h) := az_wp_iff
theorem az_s158_104 {x : Int32} : az_p158 C Q (104, lv, .int x :: st, h) ↔ az_p158 C Q (106, (az_s1 lv 11 (.int x)), st, h) := az_wp_iff
theorem az_s158_106 : az_p158 C Q (106, lv, st, h) ↔ az_mi (lv 11) (fun x => az_p158 C Q (108, lv, .int x :: st, h)) := az_wp_iff.trans az_go_ldi
theorem az_s158_108 : az_p158 C Q (108, lv, st, h) ↔ az_p158 C Q (109, lv, .int (Int32.ofInt (4)) :: st, h) := az_wp_iff
theorem az_s158_109 {x y : Int32} : az_p158 C Q (109, lv, .int y :: .int x :: st, h) ↔ (y ≤ x → az_p158 C Q (147, lv, st, h)) ∧ (¬ y ≤ x → az_p158 C Q (112, lv, st, h)) := az_wp_iff.trans (az_go_if2 az_d_eq)
theorem az_s158_112 : az_p158 C Q (112, lv, st, h) ↔ az_ma (lv 0) (fun x => az_p158 C Q (113, lv, x :: st, h)) := az_wp_iff.trans az_go_lda
theorem az_s158_113 {a : Nat} : az_p158 C Q (113, lv, .ref a :: st, h) ↔ az_mf (h.1 a) 11 37 (fun v => az_p158 C Q (116, lv, v :: st, h)) := az_wp_iff.trans az_go_gf
theorem az_s158_116 : az_p158 C Q (116, lv, st, h) ↔ az_p158 C Q (117, lv, .int (Int32.ofInt (4)) :: st, h) := az_wp_iff
theorem az_s158_117 : az_p158 C Q (117, lv, st, h) ↔ az_mi (lv 1) (fun x => az_p158 C Q (118, lv, .int x :: st, h)) := az_wp_iff.trans az_go_ldi
theorem az_s158_118 {x y : Int32} : az_p158 C Q (118, lv, .int y :: .int x :: st, h) ↔ az_p158 C Q (119, lv, .int (x * y) :: st, h) := az_wp_iff
theorem az_s158_119 : az_p158 C Q (119, lv, st, h) ↔ az_mi (lv 11) (fun x => az_p158 C Q (121, lv, .int x :: st, h)) := az_wp_iff.trans az_go_ldi
theorem az_s158_121 {x y : Int32} : az_p158 C Q (121, lv, .int y :: .int x :: st, h) ↔ az_p158 C Q (122, lv, .int (x + y) :: st, h) := az_wp_iff
theorem az_s158_122 {a : Nat} {i : Int32} : az_p158 C Q (122, lv, .int i :: .ref a :: st, h) ↔ az_mr (h.1 a) 0 i.toInt (fun x => az_p158 C Q (123, lv, .int x :: st, h)) := az_wp_iff.trans az_go_ial
theorem az_s158_123 : az_p158 C Q (123, lv, st, h) ↔ az_ma (lv 0) (fun x => az_p158 C Q (124, lv, x :: st, h)) := az_wp_iff.trans az_go_lda
theorem az_s158_124 {a : Nat} : az_p158 C Q (124, lv, .ref a :: st, h) ↔ az_mf (h.1 a) 11 37 (fun v => az_p158 C Q (127, lv, v :: st, h)) := az_wp_iff.trans az_go_gf
theorem az_s158_127 : az_p158 C Q (127, lv, st, h) ↔ az_p158 C Q (128, lv, .int (Int32.ofInt (4)) :: st, h) := az_wp_iff
theorem az_s158_128 : az_p158 C Q (128, lv, st, h) ↔ az_mi (lv 1) (fun x => az_p158 C Q (129, lv, .int x :: st, h)) := az_wp_iff.trans az_go_ldi
theorem az_s158_129 {x y : Int32} : az_p158 C Q (129, lv, .int y :: .int x :: st, h) ↔ az_p158 C Q (130, lv, .int (x * y) :: st, h) := az_wp_iff
theorem az_s158_130 : az_p158 C Q (130, lv, st, h) ↔ az_mi (lv 10) (fun x => az_p158 C Q (132, lv, .int x :: st, h)) := az_wp_iff.trans az_go_ldi
theorem az_s158_132 {x y : Int32} : az_p158 C Q (132, lv, .int y :: .int x :: st, h) ↔ az_p158 C Q (133, lv, .int (x + y) :: st, h) := az_wp_iff
theorem az_s158_133 {a : Nat} {i : Int32} : az_p158 C Q (133, lv, .int i :: .ref a :: st, h) ↔ az_mr (h.1 a) 0 i.toInt (fun x => az_p158 C Q (134, lv, .int x :: st, h)) := az_wp_iff.trans az_go_ial
theorem az_s158_134 {x y : Int32} : az_p158 C Q (134, lv, .int y :: .int x :: st, h) ↔ (x ≤ y → az_p158 C Q (141, lv, st, h)) ∧ (¬ x ≤ y → az_p158 C Q (137, lv, st, h)) := az_wp_iff.trans (az_go_if2 az_d_eq)
theorem az_s158_137 : az_p158 C Q (137, lv, st, h) ↔ az_mi (lv 11) (fun x => az_p158 C Q (139, lv, .int x :: st, h)) := az_wp_iff.trans az_go_ldi
theorem az_s158_139 {x : Int32} : az_p158 C Q (139, lv, .int x :: st, h) ↔ az_p158 C Q (141, (az_s1 lv 10 (.int x)), st, h) := az_wp_iff
theorem az_s158_141 : az_p158 C Q (141, lv, st, h) ↔ az_mi (lv 11) (fun x => az_p158 C Q (144, (az_s1 lv 11 (.int (x + Int32.ofInt (1)))), st, h)) := az_wp_iff.trans az_go_inc
theorem az_s158_144 : az_p158 C Q (144, lv, st, h) ↔ az_p158 C Q (106, lv, st, h) := az_wp_iff
theorem az_s158_147 : az_p158 C Q (147, lv, st, h) ↔ az_ma (lv 0) (fun x => az_p158 C Q (148, lv, x :: st, h)) := az_wp_iff.trans az_go_lda
theorem az_s158_148 {a : Nat} : az_p158 C Q (148, lv, .ref a :: st, h) ↔ az_mf (h.1 a) 11 37 (fun v => az_p158 C Q (151, lv, v :: st, h)) := az_wp_iff.trans az_go_gf
theorem az_s158_151 : az_p158 C Q (151, lv, st, h) ↔ az_p158 C Q (152, lv, .int (Int32.ofInt (4)) :: st, h) := az_wp_iff
theorem az_s158_152 : az_p158 C Q (152, lv, st, h) ↔ az_mi (lv 1) (fun x => az_p158 C Q (153, lv, .int x :: st, h)) := az_wp_iff.trans az_go_ldi
theorem az_s158_153 {x y : Int32} : az_p158 C Q (153, lv, .int y :: .int x :: st, h) ↔ az_p158 C Q (154, lv, .int (x * y) :: st, h) := az_wp_iff
theorem az_s158_154 : az_p158 C Q (154, lv, st, h) ↔ az_mi (lv 10) (fun x => az_p158 C Q (156, lv, .int x :: st, h)) := az_wp_iff.trans az_go_ldi
theorem az_s158_156 {x y : Int32} : az_p158 C Q (156, lv, .int y :: .int x :: st, h) ↔ az_p158 C Q (157, lv, .int (x + y) :: st, h) := az_wp_iff
theorem az_s158_157 {x : Int32} {y : Nat} : az_p158 C Q (157, lv, .int x :: .ref y :: st, h) ↔ az_p158 C Q (158, lv, .int x :: .ref y :: .int x :: .ref y :: st, h) := az_wp_iff
theorem az_s158_157l {x : Int64} : az_p158 C Q (157, lv, .long x :: st, h) ↔ az_p158 C Q (158, lv, .long x :: .long x :: st, h) := az_wp_iff
theorem az_s158_158 {a : Nat} {i : Int32} : az_p158 C Q (158, lv, .int i :: .ref a :: st, h) ↔ az_mr (h.1 a) 0 i.toInt (fun x => az_p158 C Q (159, lv, .int x :: st, h)) := az_wp_iff.trans az_go_ial
theorem az_s158_159 : az_p158 C Q (159, lv, st, h) ↔ az_p158 C Q (161, lv, .int (Int32.ofInt (1000000)) :: st, h) := az_wp_iff
theorem az_s158_161 : az_p158 C Q (161, lv, st, h) ↔ az_mi (lv 9) (fun x => az_p158 C Q (163, lv, .int x :: st, h)) := az_wp_iff.trans az_go_ldi
theorem az_s158_163 {x y : Int32} : az_p158 C Q (163, lv, .int y :: .int x :: st, h) ↔ az_p158 C Q (164, lv, .int (x - y) :: st, h) := az_wp_iff
theorem az_s158_164 {x y : Int32} : az_p158 C Q (164, lv, .int y :: .int x :: st, h) ↔ az_p158 C Q (165, lv, .int (x + y) :: st, h) := az_wp_iff
theorem az_s158_165 {a : Nat} {i x : Int32} : az_p158 C Q (165, lv, .int x :: .int i :: .ref a :: st, h) ↔ az_mw' (h.1 a) i.toInt x (fun c => az_p158 C Q (166, lv, st, az_uh h a c)) := az_wp_iff.trans az_go_ias
theorem az_s158_166 : az_p158 C Q (166, lv, st, h) ↔ az_ma (lv 0) (fun x => az_p158 C Q (167, lv, x :: st, h)) := az_wp_iff.trans az_go_lda
theorem az_s158_167 {a : Nat} : az_p158 C Q (167, lv, .ref a :: st, h) ↔ az_mf (h.1 a) 11 35 (fun v => az_p158 C Q (170, lv, v :: st, h)) := az_wp_iff.trans az_go_gf
theorem az_s158_170 : az_p158 C Q (170, lv, st, h) ↔ az_mi (lv 1) (fun x => az_p158 C Q (171, lv, .int x :: st, h)) := az_wp_iff.trans az_go_ldi
theorem az_s158_171 : az_p158 C Q (171, lv, st, h) ↔ az_ma (lv 0) (fun x => az_p158 C Q (172, lv, x :: st, h)) := az_wp_iff.trans az_go_lda
theorem az_s158_172 {a : Nat} : az_p158 C Q (172, lv, .ref a :: st, h) ↔ az_mf (h.1 a) 11 35 (fun v => az_p158 C Q (175, lv, v :: st, h)) := az_wp_iff.trans az_go_gf
theorem az_s158_175 : az_p158 C Q (175, lv, st, h) ↔ az_mi (lv 1) (fun x => az_p158 C Q (176, lv, .int x :: st, h)) := az_wp_iff.trans az_go_ldi
theorem az_s158_176 {a : Nat} {i : Int32} : az_p158 C Q (176, lv, .int i :: .ref a :: st, h) ↔ az_mr (h.1 a) 0 i.toInt (fun x => az_p158 C Q (177, lv, .int x :: st, h)) := az_wp_iff.trans az_go_ial
theorem az_s158_177 {x : Int32} : az_p158 C Q (177, lv, .int x :: st, h) ↔ az_p158 C Q (178, lv, .long x.toInt64 :: st, h) := az_wp_iff
theorem az_s158_178 : az_p158 C Q (178, lv, st, h) ↔ az_ml (lv 3) (fun x => az_p158 C Q (179, lv, .long x :: st, h)) := az_wp_iff.trans az_go_ldl
theorem az_s158_179 {x y : Int64} : az_p158 C Q (179, lv, .long y :: .long x :: st, h) ↔ az_p158 C Q (180, lv, .long (x * y) :: st, h) := az_wp_iff
theorem az_s158_180 : az_p158 C Q (180, lv, st, h) ↔ az_ma (lv 0) (fun x => az_p158 C Q (181, lv, x :: st, h)) := az_wp_iff.trans az_go_lda
theorem az_s158_181 {a : Nat} : az_p158 C Q (181, lv, .ref a :: st, h) ↔ az_mf (h.1 a) 11 35 (fun v => az_p158 C Q (184, lv, v :: st, h)) := az_wp_iff.trans az_go_gf
theorem az_s158_184 : az_p158 C Q (184, lv, st, h) ↔ az_mi (lv 2) (fun x => az_p158 C Q (185, lv, .int x :: st, h)) := az_wp_iff.trans az_go_ldi
theorem az_s158_185 {a : Nat} {i : Int32} : az_p158 C Q (185, lv, .int i :: .ref a :: st, h) ↔ az_mr (h.1 a) 0 i.toInt (fun x => az_p158 C Q (186, lv, .int x :: st, h)) := az_wp_iff.trans az_go_ial
theorem az_s158_186 {x : Int32} : az_p158 C Q (186, lv, .int x :: st, h) ↔ az_p158 C Q (187, lv, .long x.toInt64 :: st, h) := az_wp_iff
theorem az_s158_187 : az_p158 C Q (187, lv, st, h) ↔ az_ml (lv 5) (fun x => az_p158 C Q (189, lv, .long x :: st, h)) := az_wp_iff.trans az_go_ldl
theorem az_s158_189 {x y : Int64} : az_p158 C Q (189, lv, .long y :: .long x :: st, h) ↔ az_p158 C Q (190, lv, .long (x * y) :: st, h) := az_wp_iff
theorem az_s158_190 {x y : Int64} : az_p158 C Q (190, lv, .long y :: .long x :: st, h) ↔ az_p158 C Q (191, lv, .long (x + y) :: st, h) := az_wp_iff
theorem az_s158_191 : az_p158 C Q (191, lv, st, h) ↔ az_ml (lv 7) (fun x => az_p158 C Q (193, lv, .long x :: st, h)) := az_wp_iff.trans az_go_ldl
theorem az_s158_193 {v1 v2 : Value} : az_p158 C Q (193, lv, v2 :: v1 :: st, h) ↔ az_cat st ≤ 8 ∧ az_mc C 157 [v1, v2] h (fun v h' => az_p158 C Q (196, lv, v ++ st, h')) := az_wp_iff.trans az_go_call
theorem az_s158_196 {a : Nat} {i x : Int32} : az_p158 C Q (196, lv, .int x :: .int i :: .ref a :: st, h) ↔ az_mw' (h.1 a) i.toInt x (fun c => az_p158 C Q (197, lv, st, az_uh h a c)) := az_wp_iff.trans az_go_ias
theorem az_s158_197 : az_p158 C Q (197, lv, st, h) ↔ az_ma (lv 0) (fun x => az_p158 C Q (198, lv, x :: st, h)) := az_wp_iff.trans az_go_lda
theorem az_s158_198 {a : Nat} : az_p158 C Q (198, lv, .ref a :: st, h) ↔ az_mf (h.1 a) 11 36 (fun v => az_p158 C Q (201, lv, v :: st, h)) := az_wp_iff.trans az_go_gf
theorem az_s158_201 : az_p158 C Q (201, lv, st, h) ↔ az_mi (lv 1) (fun x => az_p158 C Q (202, lv, .int x :: st, h)) := az_wp_iff.trans az_go_ldi
theorem az_s158_202 : az_p158 C Q (202, lv, st, h) ↔ az_ma (lv 0) (fun x => az_p158 C Q (203, lv, x :: st, h)) := az_wp_iff.trans az_go_lda
theorem az_s158_203 {a : Nat} : az_p158 C Q (203, lv, .ref a :: st, h) ↔ az_mf (h.1 a) 11 36 (fun v => az_p158 C Q (206, lv, v :: st, h)) := az_wp_iff.trans az_go_gf
theorem az_s158_206 : az_p158 C Q (206, lv, st, h) ↔ az_mi (lv 1) (fun x => az_p158 C Q (207, lv, .int x :: st, h)) := az_wp_iff.trans az_go_ldi
theorem az_s158_207 {a : Nat} {i : Int32} : az_p158 C Q (207, lv, .int i :: .ref a :: st, h) ↔ az_mr (h.1 a) 0 i.toInt (fun x => az_p158 C Q (208, lv, .int x :: st, h)) := az_wp_iff.trans az_go_ial
theorem az_s158_208 {x : Int32} : az_p158 C Q (208, lv, .int x :: st, h) ↔ az_p158 C Q (209, lv, .long x.toInt64 :: st, h) := az_wp_iff
theorem az_s158_209 : az_p158 C Q (209, lv, st, h) ↔ az_ml (lv 3) (fun x => az_p158 C Q (210, lv, .long x :: st, h)) := az_wp_iff.trans az_go_ldl
theorem az_s158_210 {x y : Int64} : az_p158 C Q (210, lv, .long y :: .long x :: st, h) ↔ az_p158 C Q (211, lv, .long (x * y) :: st, h) := az_wp_iff
theorem az_s158_211 : az_p158 C Q (211, lv, st, h) ↔ az_ma (lv 0) (fun x => az_p158 C Q (212, lv, x :: st, h)) := az_wp_iff.trans az_go_lda
theorem az_s158_212 {a : Nat} : az_p158 C Q (212, lv, .ref a :: st, h) ↔ az_mf (h.1 a) 11 36 (fun v => az_p158 C Q (215, lv, v :: st, h)) := az_wp_iff.trans az_go_gf
theorem az_s158_215 : az_p158 C Q (215, lv, st, h) ↔ az_mi (lv 2) (fun x => az_p158 C Q (216, lv, .int x :: st, h)) := az_wp_iff.trans az_go_ldi
theorem az_s158_216 {a : Nat} {i : Int32} : az_p158 C Q (216, lv, .int i :: .ref a :: st, h) ↔ az_mr (h.1 a) 0 i.toInt (fun x => az_p158 C Q (217, lv, .int x :: st, h)) := az_wp_iff.trans az_go_ial
theorem az_s158_217 {x : Int32} : az_p158 C Q (217, lv, .int x :: st, h) ↔ az_p158 C Q (218, lv, .long x.toInt64 :: st, h) := az_wp_iff
theorem az_s158_218 : az_p158 C Q (218, lv, st, h) ↔ az_ml (lv 5) (fun x => az_p158 C Q (220, lv, .long x :: st, h)) := az_wp_iff.trans az_go_ldl
theorem az_s158_220 {x y : Int64} : az_p158 C Q (220, lv, .long y :: .long x :: st, h) ↔ az_p158 C Q (221, lv, .long (x * y) :: st, h) := az_wp_iff
theorem az_s158_221 {x y : Int64} : az_p158 C Q (221, lv, .long y :: .long x :: st, h) ↔ az_p158 C Q (222, lv, .long (x + y) :: st, h) := az_wp_iff
theorem az_s158_222 : az_p158 C Q (222, lv, st, h) ↔ az_ml (lv 7) (fun x => az_p158 C Q (224, lv, .long x :: st, h)) := az_wp_iff.trans az_go_ldl
theorem az_s158_224 {v1 v2 : Value} : az_p158 C Q (224, lv, v2 :: v1 :: st, h) ↔ az_cat st ≤ 8 ∧ az_mc C 157 [v1, v2] h (fun v h' => az_p158 C Q (227, lv, v ++ st, h')) := az_wp_iff.trans az_go_call
theorem az_s158_227 {a : Nat} {i x : Int32} : az_p158 C Q (227, lv, .int x :: .int i :: .ref a :: st, h) ↔ az_mw' (h.1 a) i.toInt x (fun c => az_p158 C Q (228, lv, st, az_uh h a c)) := az_wp_iff.trans az_go_ias
theorem az_s158_228 : az_p158 C Q (228, lv, st, h) ↔ az_ma (lv 0) (fun x => az_p158 C Q (229, lv, x :: st, h)) := az_wp_iff.trans az_go_lda
theorem az_s158_229 {a : Nat} : az_p158 C Q (229, lv, .ref a :: st, h) ↔ az_mf (h.1 a) 11 34 (fun v => az_p158 C Q (232, lv, v :: st, h)) := az_wp_iff.trans az_go_gf
theorem az_s158_232 : az_p158 C Q (232, lv, st, h) ↔ az_mi (lv 1) (fun x => az_p158 C Q (233, lv, .int x :: st, h)) := az_wp_iff.trans az_go_ldi
theorem az_s158_233 : az_p158 C Q (233, lv, st, h) ↔ az_ml (lv 7) (fun x => az_p158 C Q (235, lv, .long x :: st, h)) := az_wp_iff.trans az_go_ldl
theorem az_s158_235 {a : Nat} {i : Int32} {x : Int64} : az_p158 C Q (235, lv, .long x :: .int i :: .ref a :: st, h) ↔ az_mwl (h.1 a) i.toInt x (fun c => az_p158 C Q (236, lv, st, az_uh h a c)) := az_wp_iff.trans az_go_las
theorem az_s158_236 : az_p158 C Q (236, lv, [], h) ↔ Q none h := az_wp_iff
def az_p159 (C : az_Cl) (Q : Option Value → az_H → Prop) : az_S → Prop := az_wp C (fun _ => none) none (az_fn az_k159) Q
theorem az_s159_0 : az_p159 C Q (0, lv, st, h) ↔ az_p159 C Q (2, lv, .int (Int32.ofInt (10)) :: st, h) := az_wp_iff
theorem az_s159_2 : az_p159 C Q (2, lv, st, h) ↔ az_mi (lv 1) (fun x => az_p159 C Q (3, lv, .int x :: st, h)) := az_wp_iff.trans az_go_ldi
theorem az_s159_3 {x y : Int32} : az_p159 C Q (3, lv, .int y :: .int x :: st, h) ↔ az_p159 C Q (4, lv, .int (x * y) :: st, h) := az_wp_iff
theorem az_s159_4 : az_p159 C Q (4, lv, st, h) ↔ az_ma (lv 0) (fun x => az_p159 C Q (5, lv, x :: st, h)) := az_wp_iff.trans az_go_lda
theorem az_s159_5 {a : Nat} : az_p159 C Q (5, lv, .ref a :: st, h) ↔ az_mf (h.1 a) 11 35 (fun v => az_p159 C Q (8, lv, v :: st, h)) := az_wp_iff.trans az_go_gf
theorem az_s159_8 : az_p159 C Q (8, lv, st, h) ↔ az_mi (lv 2) (fun x => az_p159 C Q (9, lv, .int x :: st, h)) := az_wp_iff.trans az_go_ldi
theorem az_s159_9 {a : Nat} {i : Int32} : az_p159 C Q (9, lv, .int i :: .ref a :: st, h) ↔ az_mr (h.1 a) 0 i.toInt (fun x => az_p159 C Q (10, lv, .int x :: st, h)) := az_wp_iff.trans az_go_ial
theorem az_s159_10 {x y : Int32} : az_p159 C Q (10, lv, .int y :: .int x :: st, h) ↔ az_p159 C Q (11, lv, .int (x + y) :: st, h) := az_wp_iff
theorem az_s159_11 {x : Int32} : az_p159 C Q (11, lv, .int x :: st, h) ↔ az_p159 C Q (12, (az_s1 lv 3 (.int x)), st, h) := az_wp_iff
theorem az_s159_12 : az_p159 C Q (12, lv, st, h) ↔ az_ma (lv 0) (fun x => az_p159 C Q (13, lv, x :: st, h)) := az_wp_iff.trans az_go_lda
theorem az_s159_13 {a : Nat} : az_p159 C Q (13, lv, .ref a :: st, h) ↔ az_mf (h.1 a) 11 27 (fun v => az_p159 C Q (16, lv, v :: st, h)) := az_wp_iff.trans az_go_gf
theorem az_s159_16 : az_p159 C Q (16, lv, st, h) ↔ az_mi (lv 3) (fun x => az_p159 C Q (17, lv, .int x :: st, h)) := az_wp_iff.trans az_go_ldi
theorem az_s159_17 {x : Int32} {y : Nat} : az_p159 C Q (17, lv, .int x :: .ref y :: st, h) ↔ az_p159 C Q (18, lv, .int x :: .ref y :: .int x :: .ref y :: st, h) := az_wp_iff
theorem az_s159_17l {x : Int64} : az_p159 C Q (17, lv, .long x :: st, h) ↔ az_p159 C Q (18, lv, .long x :: .long x :: st, h) := az_wp_iff
theorem az_s159_18 {a : Nat} {i : Int32} : az_p159 C Q (18, lv, .int i :: .ref a :: st, h) ↔ az_mrl (h.1 a) i.toInt (fun x => az_p159 C Q (19, lv, .long x :: st, h)) := az_wp_iff.trans az_go_lal
theorem az_s159_19 : az_p159 C Q (19, lv, st, h) ↔ az_ma (lv 0) (fun x => az_p159 C Q (20, lv, x :: st, h)) := az_wp_iff.trans az_go_lda
theorem az_s159_20 {a : Nat} : az_p159 C Q (20, lv, .ref a :: st, h) ↔ az_mf (h.1 a) 11 34 (fun v => az_p159 C Q (23, lv, v :: st, h)) := az_wp_iff.trans az_go_gf
theorem az_s159_23 : az_p159 C Q (23, lv, st, h) ↔ az_mi (lv 2) (fun x => az_p159 C Q (24, lv, .int x :: st, h)) := az_wp_iff.trans az_go_ldi
theorem az_s159_24 {a : Nat} {i : Int32} : az_p159 C Q (24, lv, .int i :: .ref a :: st, h) ↔ az_mrl (h.1 a) i.toInt (fun x => az_p159 C Q (25, lv, .long x :: st, h)) := az_wp_iff.trans az_go_lal
theorem az_s159_25 {x y : Int64} : az_p159 C Q (25, lv, .long y :: .long x :: st, h) ↔ az_p159 C Q (26, lv, .long (x + y) :: st, h) := az_wp_iff
theorem az_s159_26 {a : Nat} {i : Int32} {x : Int64} : az_p159 C Q (26, lv, .long x :: .int i :: .ref a :: st, h) ↔ az_mwl (h.1 a) i.toInt x (fun c => az_p159 C Q (27, lv, st, az_uh h a c)) := az_wp_iff.trans az_go_las
theorem az_s159_27 : az_p159 C Q (27, lv, st, h) ↔ az_ma (lv 0) (fun x => az_p159 C Q (28, lv, x :: st, h)) := az_wp_iff.trans az_go_lda
theorem az_s159_28 {a : Nat} : az_p159 C Q (28, lv, .ref a :: st, h) ↔ az_mf (h.1 a) 11 27 (fun v => az_p159 C Q (31, lv, v :: st, h)) := az_wp_iff.trans az_go_gf
theorem az_s159_31 : az_p159 C Q (31, lv, st, h) ↔ az_mi (lv 3) (fun x => az_p159 C Q (32, lv, .int x :: st, h)) := az_wp_iff.trans az_go_ldi
theorem az_s159_32 {a : Nat} {i : Int32} : az_p159 C Q (32, lv, .int i :: .ref a :: st, h) ↔ az_mrl (h.1 a) i.toInt (fun x => az_p159 C Q (33, lv, .long x :: st, h)) := az_wp_iff.trans az_go_lal
theorem az_s159_33 : az_p159 C Q (33, lv, st, h) ↔ az_ma (lv 0) (fun x => az_p159 C Q (34, lv, x :: st, h)) := az_wp_iff.trans az_go_lda
theorem az_s159_34 {a : Nat} : az_p159 C Q (34, lv, .ref a :: st, h) ↔ az_mf (h.1 a) 11 9 (fun v => az_p159 C Q (37, lv, v :: st, h)) := az_wp_iff.trans az_go_gf
theorem az_s159_37 : az_p159 C Q (37, lv, st, h) ↔ az_mi (lv 1) (fun x => az_p159 C Q (38, lv, .int x :: st, h)) := az_wp_iff.trans az_go_ldi
theorem az_s159_38 {a : Nat} {i : Int32} : az_p159 C Q (38, lv, .int i :: .ref a :: st, h) ↔ az_mr (h.1 a) 0 i.toInt (fun x => az_p159 C Q (39, lv, .int x :: st, h)) := az_wp_iff.trans az_go_ial
theorem az_s159_39 {x : Int32} : az_p159 C Q (39, lv, .int x :: st, h) ↔ az_p159 C Q (40, lv, .long x.toInt64 :: st, h) := az_wp_iff
theorem az_s159_40 {x y : Int64} : az_p159 C Q (40, lv, .long y :: .long x :: st, h) ↔ ¬ y = 0 ∧ az_p159 C Q (41, lv, .long (x / y) :: st, h) := az_wp_iff.trans az_go_ldv
theorem az_s159_41 {x : Int64} : az_p159 C Q (41, lv, .long x :: st, h) ↔ az_p159 C Q (43, (az_s2 lv 4 (.long x)), st, h) := az_wp_iff
theorem az_s159_43 : az_p159 C Q (43, lv, st, h) ↔ az_ma (lv 0) (fun x => az_p159 C Q (44, lv, x :: st, h)) := az_wp_iff.trans az_go_lda
theorem az_s159_44 {a : Nat} : az_p159 C Q (44, lv, .ref a :: st, h) ↔ az_mf (h.1 a) 11 27 (fun v => az_p159 C Q (47, lv, v :: st, h)) := az_wp_iff.trans az_go_gf
theorem az_s159_47 : az_p159 C Q (47, lv, st, h) ↔ az_mi (lv 3) (fun x => az_p159 C Q (48, lv, .int x :: st, h)) := az_wp_iff.trans az_go_ldi
theorem az_s159_48 {x : Int32} {y : Nat} : az_p159 C Q (48, lv, .int x :: .ref y :: st, h) ↔ az_p159 C Q (49, lv, .int x :: .ref y :: .int x :: .ref y :: st, h) := az_wp_iff
theorem az_s159_48l {x : Int64} : az_p159 C Q (48, lv, .long x :: st, h) ↔ az_p159 C Q (49, lv, .long x :: .long x :: st, h) := az_wp_iff
theorem az_s159_49 {a : Nat} {i : Int32} : az_p159 C Q (49, lv, .int i :: .ref a :: st, h) ↔ az_mrl (h.1 a) i.toInt (fun x => az_p159 C Q (50, lv, .long x :: st, h)) := az_wp_iff.trans az_go_lal
theorem az_s159_50 : az_p159 C Q (50, lv, st, h) ↔ az_ml (lv 4) (fun x => az_p159 C Q (52, lv, .long x :: st, h)) := az_wp_iff.trans az_go_ldl
theorem az_s159_52 : az_p159 C Q (52, lv, st, h) ↔ az_ma (lv 0) (fun x => az_p159 C Q (53, lv, x :: st, h)) := az_wp_iff.trans az_go_lda
theorem az_s159_53 {a : Nat} : az_p159 C Q (53, lv, .ref a :: st, h) ↔ az_mf (h.1 a) 11 9 (fun v => az_p159 C Q (56, lv, v :: st, h)) := az_wp_iff.trans az_go_gf
theorem az_s159_56 : az_p159 C Q (56, lv, st, h) ↔ az_mi (lv 1) (fun x => az_p159 C Q (57, lv, .int x :: st, h)) := az_wp_iff.trans az_go_ldi
theorem az_s159_57 {a : Nat} {i : Int32} : az_p159 C Q (57, lv, .int i :: .ref a :: st, h) ↔ az_mr (h.1 a) 0 i.toInt (fun x => az_p159 C Q (58, lv, .int x :: st, h)) := az_wp_iff.trans az_go_ial
theorem az_s159_58 {x : Int32} : az_p159 C Q (58, lv, .int x :: st, h) ↔ az_p159 C Q (59, lv, .long x.toInt64 :: st, h) := az_wp_iff
theorem az_s159_59 {x y : Int64} : az_p159 C Q (59, lv, .long y :: .long x :: st, h) ↔ az_p159 C Q (60, lv, .long (x * y) :: st, h) := az_wp_iff
theorem az_s159_60 {x y : Int64} : az_p159 C Q (60, lv, .long y :: .long x :: st, h) ↔ az_p159 C Q (61, lv, .long (x - y) :: st, h) := az_wp_iff
theorem az_s159_61 {a : Nat} {i : Int32} {x : Int64} : az_p159 C Q (61, lv, .long x :: .int i :: .ref a :: st, h) ↔ az_mwl (h.1 a) i.toInt x (fun c => az_p159 C Q (62, lv, st, az_uh h a c)) := az_wp_iff.trans az_go_las
theorem az_s159_62 : az_p159 C Q (62, lv, st, h) ↔ az_ma (lv 0) (fun x => az_p159 C Q (63, lv, x :: st, h)) := az_wp_iff.trans az_go_lda
theorem az_s159_63 {x : Int32} : az_p159 C Q (63, lv, .int x :: st, h) ↔ az_p159 C Q (64, lv, .int x :: .int x :: st, h) := az_wp_iff
theorem az_s159_63r {x : Nat} : az_p159 C Q (63, lv, .ref x :: st, h) ↔ az_p159 C Q (64, lv, .ref x :: .ref x :: st, h) := az_wp_iff
theorem az_s159_64 {a : Nat} : az_p159 C Q (64, lv, .ref a :: st, h) ↔ az_mf (h.1 a) 11 50 (fun v => az_p159 C Q (67, lv, v :: st, h)) := az_wp_iff.trans az_go_gf
theorem az_s159_67 : az_p159 C Q (67, lv, st, h) ↔ az_ml (lv 4) (fun x => az_p159 C Q (69, lv, .long x :: st, h)) := az_wp_iff.trans az_go_ldl
theorem az_s159_69 : az_p159 C Q (69, lv, st, h) ↔ az_ma (lv 0) (fun x => az_p159 C Q (70, lv, x :: st, h)) := az_wp_iff.trans az_go_lda
theorem az_s159_70 {a : Nat} : az_p159 C Q (70, lv, .ref a :: st, h) ↔ az_mf (h.1 a) 11 9 (fun v => az_p159 C Q (73, lv, v :: st, h)) := az_wp_iff.trans az_go_gf
theorem az_s159_73 : az_p159 C Q (73, lv, st, h) ↔ az_mi (lv 1) (fun x => az_p159 C Q (74, lv, .int x :: st, h)) := az_wp_iff.trans az_go_ldi
theorem az_s159_74 {a : Nat} {i : Int32} : az_p159 C Q (74, lv, .int i :: .ref a :: st, h) ↔ az_mr (h.1 a) 0 i.toInt (fun x => az_p159 C Q (75, lv, .int x :: st, h)) := az_wp_iff.trans az_go_ial
theorem az_s159_75 {x : Int32} : az_p159 C Q (75, lv, .int x :: st, h) ↔ az_p159 C Q (76, lv, .long x.toInt64 :: st, h) := az_wp_iff
theorem az_s159_76 {x y : Int64} : az_p159 C Q (76, lv, .long y :: .long x :: st, h) ↔ az_p159 C Q (77, lv, .long (x * y) :: st, h) := az_wp_iff
theorem az_s159_77 {x y : Int64} : az_p159 C Q (77, lv, .long y :: .long x :: st, h) ↔ az_p159 C Q (78, lv, .long (x + y) :: st, h) := az_wp_iff
theorem az_s159_78 {a : Nat} {v : Value} : az_p159 C Q (78, lv, v :: .ref a :: st, h) ↔ az_mp (h.1 a) 11 50 1 v (fun c => az_p159 C Q (81, lv, st, az_uh h a c)) := az_wp_iff.trans az_go_pf
theorem az_s159_81 : az_p159 C Q (81, lv, st, h) ↔ az_ma (lv 0) (fun x => az_p159 C Q (82, lv, x :: st, h)) := az_wp_iff.trans az_go_lda
theorem az_s159_82 {a : Nat} : az_p159 C Q (82, lv, .ref a :: st, h) ↔ az_mf (h.1 a) 11 53 (fun v => az_p159 C Q (85, lv, v :: st, h)) := az_wp_iff.trans az_go_gf
theorem az_s159_85 : az_p159 C Q (85, lv, st, h) ↔ az_ma (lv 0) (fun x => az_p159 C Q (86, lv, x :: st, h)) := az_wp_iff.trans az_go_lda
theorem az_s159_86 {a : Nat} : az_p159 C Q (86, lv, .ref a :: st, h) ↔ az_mf (h.1 a) 11 35 (fun v => az_p159 C Q (89, lv, v :: st, h)) := az_wp_iff.trans az_go_gf
theorem az_s159_89 : az_p159 C Q (89, lv, st, h) ↔ az_mi (lv 2) (fun x => az_p159 C Q (90, lv, .int x :: st, h)) := az_wp_iff.trans az_go_ldi
theorem az_s159_90 {a : Nat} {i : Int32} : az_p159 C Q (90, lv, .int i :: .ref a :: st, h) ↔ az_mr (h.1 a) 0 i.toInt (fun x => az_p159 C Q (91, lv, .int x :: st, h)) := az_wp_iff.trans az_go_ial
theorem az_s159_91 {x : Int32} {y : Nat} : az_p159 C Q (91, lv, .int x :: .ref y :: st, h) ↔ az_p159 C Q (92, lv, .int x :: .ref y :: .int x :: .ref y :: st, h) := az_wp_iff
theorem az_s159_91l {x : Int64} : az_p159 C Q (91, lv, .long x :: st, h) ↔ az_p159 C Q (92, lv, .long x :: .long x :: st, h) := az_wp_iff
theorem az_s159_92 {a : Nat} {i : Int32} : az_p159 C Q (92, lv, .int i :: .ref a :: st, h) ↔ az_mr (h.1 a) 0 i.toInt (fun x => az_p159 C Q (93, lv, .int x :: st, h)) := az_wp_iff.trans az_go_ial
theorem az_s159_93 : az_p159 C Q (93, lv, st, h) ↔ az_ml (lv 4) (fun x => az_p159 C Q (95, lv, .long x :: st, h)) := az_wp_iff.trans az_go_ldl
theorem az_s159_95 {x : Int64} : az_p159 C Q (95, lv, .long x :: st, h) ↔ az_p159 C Q (96, lv, .int x.toInt32 :: st, h) := az_wp_iff
theorem az_s159_96 {x y : Int32} : az_p159 C Q (96, lv, .int y :: .int x :: st, h) ↔ az_p159 C Q (97, lv, .int (x + y) :: st, h) := az_wp_iff
theorem az_s159_97 {a : Nat} {i x : Int32} : az_p159 C Q (97, lv, .int x :: .int i :: .ref a :: st, h) ↔ az_mw' (h.1 a) i.toInt x (fun c => az_p159 C Q (98, lv, st, az_uh h a c)) := az_wp_iff.trans az_go_ias
theorem az_s159_98 : az_p159 C Q (98, lv, [], h) ↔ Q none h := az_wp_iff
def az_p160 (C : az_Cl) (Q : Option Value → az_H → Prop) : az_S → Prop := az_wp C (fun _ => none) none (az_fn az_k160) Q
theorem az_s160_0 : az_p160 C Q (0, lv, st, h) ↔ az_ma (lv 0) (fun x => az_p160 C Q (1, lv, x :: st, h)) := az_wp_iff.trans az_go_lda
theorem az_s160_1 {a : Nat} : az_p160 C Q (1, lv, .ref a :: st, h) ↔ az_mf (h.1 a) 11 21 (fun v => az_p160 C Q (4, lv, v :: st, h)) := az_wp_iff.trans az_go_gf
theorem az_s160_4 : az_p160 C Q (4, lv, st, h) ↔ az_mi (lv 1) (fun x => az_p160 C Q (5, lv, .int x :: st, h)) := az_wp_iff.trans az_go_ldi
theorem az_s160_5 {a : Nat} {i : Int32} : az_p160 C Q (5, lv, .int i :: .ref a :: st, h) ↔ az_mr (h.1 a) 0 i.toInt (fun x => az_p160 C Q (6, lv, .int x :: st, h)) := az_wp_iff.trans az_go_ial
theorem az_s160_6 {x : Int32} : az_p160 C Q (6, lv, .int x :: st, h) ↔ az_p160 C Q (7, (az_s1 lv 2 (.int x)), st, h) := az_wp_iff
theorem az_s160_7 : az_p160 C Q (7, lv, st, h) ↔ az_ma (lv 0) (fun x => az_p160 C Q (8, lv, x :: st, h)) := az_wp_iff.trans az_go_lda
theorem az_s160_8 {a : Nat} : az_p160 C Q (8, lv, .ref a :: st, h) ↔ az_mf (h.1 a) 11 8 (fun v => az_p160 C Q (11, lv, v :: st, h)) := az_wp_iff.trans az_go_gf
theorem az_s160_11 : az_p160 C Q (11, lv, st, h) ↔ az_mi (lv 1) (fun x => az_p160 C Q (12, lv, .int x :: st, h)) := az_wp_iff.trans az_go_ldi
theorem az_s160_12 {a : Nat} {i : Int32} : az_p160 C Q (12, lv, .int i :: .ref a :: st, h) ↔ az_mr (h.1 a) 0 i.toInt (fun x => az_p160 C Q (13, lv, .int x :: st, h)) := az_wp_iff.trans az_go_ial
theorem az_s160_13 {x : Int32} : az_p160 C Q (13, lv, .int x :: st, h) ↔ (x.toInt = 0 → az_p160 C Q (52, lv, st, h)) ∧ (¬ x.toInt = 0 → (x.toInt = 1 → az_p160 C Q (61, lv, st, h)) ∧ (¬ x.toInt = 1 → (x.toInt = 2 → az_p160 C Q (70, lv, st, h)) ∧ (¬ x.toInt = 2 → (x.toInt = 3 → az_p160 C Q (100, lv, st, h)) ∧ (¬ x.toInt = 3 → (x.toInt = 4 → az_p160 C Q (77, lv, st, h)) ∧ (¬ x.toInt = 4 → (x.toInt = 5 → az_p160 C Q (91, lv, st, h)) ∧ (¬ x.toInt = 5 → az_p160 C Q (100, lv, st, h))))))) := az_wp_iff.trans (az_sel_iff (K := fun t => az_p160 C Q (t, lv, st, h)) _ _ _)
theorem az_s160_52 : az_p160 C Q (52, lv, st, h) ↔ az_ma (lv 0) (fun x => az_p160 C Q (53, lv, x :: st, h)) := az_wp_iff.trans az_go_lda
theorem az_s160_53 : az_p160 C Q (53, lv, st, h) ↔ az_mi (lv 1) (fun x => az_p160 C Q (54, lv, .int x :: st, h)) := az_wp_iff.trans az_go_ldi
theorem az_s160_54 : az_p160 C Q (54, lv, st, h) ↔ az_mi (lv 2) (fun x => az_p160 C Q (55, lv, .int x :: st, h)) := az_wp_iff.trans az_go_ldi
theorem az_s160_55 {a : Nat} {v1 v2 : Value} : az_p160 C Q (55, lv, v2 :: v1 :: .ref a :: st, h) ↔ az_isob (h.1 a) 11 = true ∧ az_cat st ≤ 8 ∧ az_mc C 154 [.ref a, v1, v2] h (fun v h' => az_p160 C Q (58, lv, v ++ st, h')) := az_wp_iff.trans (az_go_if.trans (and_congr Iff.rfl az_go_call))
theorem az_s160_58 : az_p160 C Q (58, lv, st, h) ↔ az_p160 C Q (100, lv, st, h) := az_wp_iff
theorem az_s160_61 : az_p160 C Q (61, lv, st, h) ↔ az_ma (lv 0) (fun x => az_p160 C Q (62, lv, x :: st, h)) := az_wp_iff.trans az_go_lda
theorem az_s160_62 : az_p160 C Q (62, lv, st, h) ↔ az_mi (lv 1) (fun x => az_p160 C Q (63, lv, .int x :: st, h)) := az_wp_iff.trans az_go_ldi
theorem az_s160_63 : az_p160 C Q (63, lv, st, h) ↔ az_mi (lv 2) (fun x => az_p160 C Q (64, lv, .int x :: st, h)) := az_wp_iff.trans az_go_ldi
theorem az_s160_64 {a : Nat} {v1 v2 : Value} : az_p160 C Q (64, lv, v2 :: v1 :: .ref a :: st, h) ↔ az_isob (h.1 a) 11 = true ∧ az_cat st ≤ 8 ∧ az_mc C 155 [.ref a, v1, v2] h (fun v h' => az_p160 C Q (67, lv, v ++ st, h')) := az_wp_iff.trans (az_go_if.trans (and_congr Iff.rfl az_go_call))
theorem az_s160_67 : az_p160 C Q (67, lv, st, h) ↔ az_p160 C Q (100, lv, st, h) := az_wp_iff
theorem az_s160_70 : az_p160 C Q (70, lv, st, h) ↔ az_ma (lv 0) (fun x => az_p160 C Q (71, lv, x :: st, h)) := az_wp_iff.trans az_go_lda
theorem az_s160_71 : az_p160 C Q (71, lv, st, h) ↔ az_mi (lv 1) (fun x => az_p160 C Q (72, lv, .int x :: st, h)) := az_wp_iff.trans az_go_ldi
theorem az_s160_72 : az_p160 C Q (72, lv, st, h) ↔ az_mi (lv 2) (fun x => az_p160 C Q (73, lv, .int x :: st, h)) := az_wp_iff.trans az_go_ldi
theorem az_s160_73 {a : Nat} {v1 v2 : Value} : az_p160 C Q (73, lv, v2 :: v1 :: .ref a :: st, h) ↔ az_isob (h.1 a) 11 = true ∧ az_cat st ≤ 8 ∧ az_mc C 156 [.ref a, v1, v2] h (fun v h' => az_p160 C Q (76, lv, v ++ st, h')) := az_wp_iff.trans (az_go_if.trans (and_congr Iff.rfl az_go_call))
theorem az_s160_76 : az_p160 C Q (76, lv, [], h) ↔ Q none h := az_wp_iff
theorem az_s160_77 : az_p160 C Q (77, lv, st, h) ↔ az_ma (lv 0) (fun x => az_p160 C Q (78, lv, x :: st, h)) := az_wp_iff.trans az_go_lda
theorem az_s160_78 : az_p160 C Q (78, lv, st, h) ↔ az_mi (lv 2) (fun x => az_p160 C Q (79, lv, .int x :: st, h)) := az_wp_iff.trans az_go_ldi
theorem az_s160_79 : az_p160 C Q (79, lv, st, h) ↔ az_ma (lv 0) (fun x => az_p160 C Q (80, lv, x :: st, h)) := az_wp_iff.trans az_go_lda
theorem az_s160_80 {a : Nat} : az_p160 C Q (80, lv, .ref a :: st, h) ↔ az_mf (h.1 a) 11 22 (fun v => az_p160 C Q (83, lv, v :: st, h)) := az_wp_iff.trans az_go_gf
theorem az_s160_83 : az_p160 C Q (83, lv, st, h) ↔ az_mi (lv 1) (fun x => az_p160 C Q (84, lv, .int x :: st, h)) := az_wp_iff.trans az_go_ldi
theorem az_s160_84 {a : Nat} {i : Int32} : az_p160 C Q (84, lv, .int i :: .ref a :: st, h) ↔ az_mr (h.1 a) 0 i.toInt (fun x => az_p160 C Q (85, lv, .int x :: st, h)) := az_wp_iff.trans az_go_ial
theorem az_s160_85 {a : Nat} {v1 v2 : Value} : az_p160 C Q (85, lv, v2 :: v1 :: .ref a :: st, h) ↔ az_isob (h.1 a) 11 = true ∧ az_cat st ≤ 8 ∧ az_mc C 158 [.ref a, v1, v2] h (fun v h' => az_p160 C Q (88, lv, v ++ st, h')) := az_wp_iff.trans (az_go_if.trans (and_congr Iff.rfl az_go_call))
theorem az_s160_88 : az_p160 C Q (88, lv, st, h) ↔ az_p160 C Q (100, lv, st, h) := az_wp_iff
theorem az_s160_91 : az_p160 C Q (91, lv, st, h) ↔ az_ma (lv 0) (fun x => az_p160 C Q (92, lv, x :: st, h)) := az_wp_iff.trans az_go_lda
theorem az_s160_92 : az_p160 C Q (92, lv, st, h) ↔ az_mi (lv 1) (fun x => az_p160 C Q (93, lv, .int x :: st, h)) := az_wp_iff.trans az_go_ldi
theorem az_s160_93 : az_p160 C Q (93, lv, st, h) ↔ az_mi (lv 2) (fun x => az_p160 C Q (94, lv, .int x :: st, h)) := az_wp_iff.trans az_go_ldi
theorem az_s160_94 {a : Nat} {v1 v2 : Value} : az_p160 C Q (94, lv, v2 :: v1 :: .ref a :: st, h) ↔ az_isob (h.1 a) 11 = true ∧ az_cat st ≤ 8 ∧ az_mc C 159 [.ref a, v1, v2] h (fun v h' => az_p160 C Q (97, lv, v ++ st, h')) := az_wp_iff.trans (az_go_if.trans (and_congr Iff.rfl az_go_call))
theorem az_s160_97 : az_p160 C Q (97, lv, st, h) ↔ az_p160 C Q (100, lv, st, h) := az_wp_iff
theorem az_s160_100 : az_p160 C Q (100, lv, st, h) ↔ az_ma (lv 0) (fun x => az_p160 C Q (101, lv, x :: st, h)) := az_wp_iff.trans az_go_lda
theorem az_s160_101 {a : Nat} : az_p160 C Q (101, lv, .ref a :: st, h) ↔ az_mf (h.1 a) 11 22 (fun v => az_p160 C Q (104, lv, v :: st, h)) := az_wp_iff.trans az_go_gf
theorem az_s160_104 : az_p160 C Q (104, lv, st, h) ↔ az_mi (lv 1) (fun x => az_p160 C Q (105, lv, .int x :: st, h)) := az_wp_iff.trans az_go_ldi
theorem az_s160_105 : az_p160 C Q (105, lv, st, h) ↔ az_p160 C Q (106, lv, .int (Int32.ofInt (-1)) :: st, h) := az_wp_iff
theorem az_s160_106 {a : Nat} {i x : Int32} : az_p160 C Q (106, lv, .int x :: .int i :: .ref a :: st, h) ↔ az_mw' (h.1 a) i.toInt x (fun c => az_p160 C Q (107, lv, st, az_uh h a c)) := az_wp_iff.trans az_go_ias
theorem az_s160_107 : az_p160 C Q (107, lv, st, h) ↔ az_ma (lv 0) (fun x => az_p160 C Q (108, lv, x :: st, h)) := az_wp_iff.trans az_go_lda
theorem az_s160_108 {a : Nat} : az_p160 C Q (108, lv, .ref a :: st, h) ↔ az_mf (h.1 a) 11 8 (fun v => az_p160 C Q (111, lv, v :: st, h)) := az_wp_iff.trans az_go_gf
theorem az_s160_111 : az_p160 C Q (111, lv, st, h) ↔ az_mi (lv 1) (fun x => az_p160 C Q (112, lv, .int x :: st, h)) := az_wp_iff.trans az_go_ldi
theorem az_s160_112 {a : Nat} {i : Int32} : az_p160 C Q (112, lv, .int i :: .ref a :: st, h) ↔ az_mr (h.1 a) 0 i.toInt (fun x => az_p160 C Q (113, lv, .int x :: st, h)) := az_wp_iff.trans az_go_ial
theorem az_s160_113 : az_p160 C Q (113, lv, st, h) ↔ az_p160 C Q (114, lv, .int (Int32.ofInt (5)) :: st, h) := az_wp_iff
theorem az_s160_114 {x y : Int32} : az_p160 C Q (114, lv, .int y :: .int x :: st, h) ↔ (¬ x = y → az_p160 C Q (125, lv, st, h)) ∧ (¬ ¬ x = y → az_p160 C Q (117, lv, st, h)) := az_wp_iff.trans (az_go_if2 az_d_eq)
theorem az_s160_117 : az_p160 C Q (117, lv, st, h) ↔ az_ma (lv 0) (fun x => az_p160 C Q (118, lv, x :: st, h)) := az_wp_iff.trans az_go_lda
theorem az_s160_118 {a : Nat} : az_p160 C Q (118, lv, .ref a :: st, h) ↔ az_mf (h.1 a) 11 21 (fun v => az_p160 C Q (121, lv, v :: st, h)) := az_wp_iff.trans az_go_gf
theorem az_s160_121 : az_p160 C Q (121, lv, st, h) ↔ az_mi (lv 1) (fun x => az_p160 C Q (122, lv, .int x :: st, h)) := az_wp_iff.trans az_go_ldi
theorem az_s160_122 : az_p160 C Q (122, lv, st, h) ↔ az_p160 C Q (123, lv, .int (Int32.ofInt (-1)) :: st, h) := az_wp_iff
theorem az_s160_123 {a : Nat} {i x : Int32} : az_p160 C Q (123, lv, .int x :: .int i :: .ref a :: st, h) ↔ az_mw' (h.1 a) i.toInt x (fun c => az_p160 C Q (124, lv, st, az_uh h a c)) := az_wp_iff.trans az_go_ias
theorem az_s160_124 : az_p160 C Q (124, lv, [], h) ↔ Q none h := az_wp_iff
theorem az_s160_125 : az_p160 C Q (125, lv, st, h) ↔ az_ma (lv 0) (fun x => az_p160 C Q (126, lv, x :: st, h)) := az_wp_iff.trans az_go_lda
theorem az_s160_126 : az_p160 C Q (126, lv, st, h) ↔ az_mi (lv 1) (fun x => az_p160 C Q (127, lv, .int x :: st, h)) := az_wp_iff.trans az_go_ldi
theorem az_s160_127 : az_p160 C Q (127, lv, st, h) ↔ az_ma (lv 0) (fun x => az_p160 C Q (128, lv, x :: st, h)) := az_wp_iff.trans az_go_lda
theorem az_s160_128 {a : Nat} : az_p160 C Q (128, lv, .ref a :: st, h) ↔ az_mf (h.1 a) 11 34 (fun v => az_p160 C Q (131, lv, v :: st, h)) := az_wp_iff.trans az_go_gf
theorem az_s160_131 : az_p160 C Q (131, lv, st, h) ↔ az_mi (lv 2) (fun x => az_p160 C Q (132, lv, .int x :: st, h)) := az_wp_iff.trans az_go_ldi
theorem az_s160_132 {a : Nat} {i : Int32} : az_p160 C Q (132, lv, .int i :: .ref a :: st, h) ↔ az_mrl (h.1 a) i.toInt (fun x => az_p160 C Q (133, lv, .long x :: st, h)) := az_wp_iff.trans az_go_lal
theorem az_s160_133 : az_p160 C Q (133, lv, st, h) ↔ az_ma (lv 0) (fun x => az_p160 C Q (134, lv, x :: st, h)) := az_wp_iff.trans az_go_lda
theorem az_s160_134 {a : Nat} : az_p160 C Q (134, lv, .ref a :: st, h) ↔ az_mf (h.1 a) 11 35 (fun v => az_p160 C Q (137, lv, v :: st, h)) := az_wp_iff.trans az_go_gf
theorem az_s160_137 : az_p160 C Q (137, lv, st, h) ↔ az_mi (lv 2) (fun x => az_p160 C Q (138, lv, .int x :: st, h)) := az_wp_iff.trans az_go_ldi
theorem az_s160_138 {a : Nat} {i : Int32} : az_p160 C Q (138, lv, .int i :: .ref a :: st, h) ↔ az_mr (h.1 a) 0 i.toInt (fun x => az_p160 C Q (139, lv, .int x :: st, h)) := az_wp_iff.trans az_go_ial
theorem az_s160_139 : az_p160 C Q (139, lv, st, h) ↔ az_ma (lv 0) (fun x => az_p160 C Q (140, lv, x :: st, h)) := az_wp_iff.trans az_go_lda
theorem az_s160_140 {a : Nat} : az_p160 C Q (140, lv, .ref a :: st, h) ↔ az_mf (h.1 a) 11 8 (fun v => az_p160 C Q (143, lv, v :: st, h)) := az_wp_iff.trans az_go_gf
theorem az_s160_143 : az_p160 C Q (143, lv, st, h) ↔ az_mi (lv 1) (fun x => az_p160 C Q (144, lv, .int x :: st, h)) := az_wp_iff.trans az_go_ldi
theorem az_s160_144 {a : Nat} {i : Int32} : az_p160 C Q (144, lv, .int i :: .ref a :: st, h) ↔ az_mr (h.1 a) 0 i.toInt (fun x => az_p160 C Q (145, lv, .int x :: st, h)) := az_wp_iff.trans az_go_ial
theorem az_s160_145 : az_p160 C Q (145, lv, st, h) ↔ az_p160 C Q (146, lv, .int (Int32.ofInt (3)) :: st, h) := az_wp_iff
theorem az_s160_146 {x y : Int32} : az_p160 C Q (146, lv, .int y :: .int x :: st, h) ↔ (¬ x = y → az_p160 C Q (168, lv, st, h)) ∧ (¬ ¬ x = y → az_p160 C Q (149, lv, st, h)) := az_wp_iff.trans (az_go_if2 az_d_eq)
theorem az_s160_149 : az_p160 C Q (149, lv, st, h) ↔ az_ma (lv 0) (fun x => az_p160 C Q (150, lv, x :: st, h)) := az_wp_iff.trans az_go_lda
theorem az_s160_150 {a : Nat} : az_p160 C Q (150, lv, .ref a :: st, h) ↔ az_mf (h.1 a) 11 35 (fun v => az_p160 C Q (153, lv, v :: st, h)) := az_wp_iff.trans az_go_gf
theorem az_s160_153 : az_p160 C Q (153, lv, st, h) ↔ az_mi (lv 2) (fun x => az_p160 C Q (154, lv, .int x :: st, h)) := az_wp_iff.trans az_go_ldi
theorem az_s160_154 {a : Nat} {i : Int32} : az_p160 C Q (154, lv, .int i :: .ref a :: st, h) ↔ az_mr (h.1 a) 0 i.toInt (fun x => az_p160 C Q (155, lv, .int x :: st, h)) := az_wp_iff.trans az_go_ial
theorem az_s160_155 : az_p160 C Q (155, lv, st, h) ↔ az_ma (lv 0) (fun x => az_p160 C Q (156, lv, x :: st, h)) := az_wp_iff.trans az_go_lda
theorem az_s160_156 {a : Nat} : az_p160 C Q (156, lv, .ref a :: st, h) ↔ az_mf (h.1 a) 11 9 (fun v => az_p160 C Q (159, lv, v :: st, h)) := az_wp_iff.trans az_go_gf
theorem az_s160_159 : az_p160 C Q (159, lv, st, h) ↔ az_mi (lv 1) (fun x => az_p160 C Q (160, lv, .int x :: st, h)) := az_wp_iff.trans az_go_ldi
theorem az_s160_160 {a : Nat} {i : Int32} : az_p160 C Q (160, lv, .int i :: .ref a :: st, h) ↔ az_mr (h.1 a) 0 i.toInt (fun x => az_p160 C Q (161, lv, .int x :: st, h)) := az_wp_iff.trans az_go_ial
theorem az_s160_161 {x y : Int32} : az_p160 C Q (161, lv, .int y :: .int x :: st, h) ↔ (x ≤ y → az_p160 C Q (168, lv, st, h)) ∧ (¬ x ≤ y → az_p160 C Q (164, lv, st, h)) := az_wp_iff.trans (az_go_if2 az_d_eq)
theorem az_s160_164 : az_p160 C Q (164, lv, st, h) ↔ az_p160 C Q (165, lv, .int (Int32.ofInt (1)) :: st, h) := az_wp_iff
theorem az_s160_165 : az_p160 C Q (165, lv, st, h) ↔ az_p160 C Q (169, lv, st, h) := az_wp_iff
theorem az_s160_168 : az_p160 C Q (168, lv, st, h) ↔ az_p160 C Q (169, lv, .int (Int32.ofInt (0)) :: st, h) := az_wp_iff
theorem az_s160_169 {a : Nat} {v1 v2 v3 v4 : Value} : az_p160 C Q (169, lv, v4 :: v3 :: v2 :: v1 :: .ref a :: st, h) ↔ az_isob (h.1 a) 11 = true ∧ az_cat st ≤ 8 ∧ az_mc C 153 [.ref a, v1, v2, v3, v4] h (fun v h' => az_p160 C Q (172, lv, v ++ st, h')) := az_wp_iff.trans (az_go_if.trans (and_congr Iff.rfl az_go_call))
theorem az_s160_172 : az_p160 C Q (172, lv, [], h) ↔ Q none h := az_wp_iff
def az_p161 (C : az_Cl) (Q : Option Value → az_H → Prop) : az_S → Prop := az_wp C (fun _ => none) none (az_fn az_k161) Q
theorem az_s161_0 : az_p161 C Q (0, lv, st, h) ↔ az_mi (lv 2) (fun x => az_p161 C Q (1, lv, .int x :: st, h)) := az_wp_iff.trans az_go_ldi
theorem az_s161_1 : az_p161 C Q (1, lv, st, h) ↔ az_p161 C Q (2, lv, .int (Int32.ofInt (-1)) :: st, h) := az_wp_iff
theorem az_s161_2 {x y : Int32} : az_p161 C Q (2, lv, .int y :: .int x :: st, h) ↔ (¬ x = y → az_p161 C Q (6, lv, st, h)) ∧ (¬ ¬ x = y → az_p161 C Q (5, lv, st, h)) := az_wp_iff.trans (az_go_if2 az_d_eq)
theorem az_s161_5 : az_p161 C Q (5, lv, [], h) ↔ Q none h := az_wp_iff
theorem az_s161_6 : az_p161 C Q (6, lv, st, h) ↔ az_ma (lv 0) (fun x => az_p161 C Q (7, lv, x :: st, h)) := az_wp_iff.trans az_go_lda
theorem az_s161_7 {a : Nat} : az_p161 C Q (7, lv, .ref a :: st, h) ↔ az_mf (h.1 a) 11 44 (fun v => az_p161 C Q (10, lv, v :: st, h)) := az_wp_iff.trans az_go_gf
theorem az_s161_10 : az_p161 C Q (10, lv, st, h) ↔ az_ma (lv 0) (fun x => az_p161 C Q (11, lv, x :: st, h)) := az_wp_iff.trans az_go_lda
theorem az_s161_11 {a : Nat} : az_p161 C Q (11, lv, .ref a :: st, h) ↔ az_mf (h.1 a) 11 43 (fun v => az_p161 C Q (14, lv, v :: st, h)) := az_wp_iff.trans az_go_gf
theorem az_s161_14 : az_p161 C Q (14, lv, st, h) ↔ az_mi (lv 2) (fun x => az_p161 C Q (15, lv, .int x :: st, h)) := az_wp_iff.trans az_go_ldi
theorem az_s161_15 {a : Nat} {i x : Int32} : az_p161 C Q (15, lv, .int x :: .int i :: .ref a :: st, h) ↔ az_mw' (h.1 a) i.toInt x (fun c => az_p161 C Q (16, lv, st, az_uh h a c)) := az_wp_iff.trans az_go_ias
theorem az_s161_16 : az_p161 C Q (16, lv, st, h) ↔ az_ma (lv 0) (fun x => az_p161 C Q (17, lv, x :: st, h)) := az_wp_iff.trans az_go_lda
theorem az_s161_17 {a : Nat} : az_p161 C Q (17, lv, .ref a :: st, h) ↔ az_mf (h.1 a) 11 45 (fun v => az_p161 C Q (20, lv, v :: st, h)) := az_wp_iff.trans az_go_gf
theorem az_s161_20 : az_p161 C Q (20, lv, st, h) ↔ az_ma (lv 0) (fun x => az_p161 C Q (21, lv, x :: st, h)) := az_wp_iff.trans az_go_lda
theorem az_s161_21 {a : Nat} : az_p161 C Q (21, lv, .ref a :: st, h) ↔ az_mf (h.1 a) 11 43 (fun v => az_p161 C Q (24, lv, v :: st, h)) := az_wp_iff.trans az_go_gf
theorem az_s161_24 : az_p161 C Q (24, lv, st, h) ↔ az_mi (lv 1) (fun x => az_p161 C Q (25, lv, .int x :: st, h)) := az_wp_iff.trans az_go_ldi
theorem az_s161_25 {a : Nat} {i x : Int32} : az_p161 C Q (25, lv, .int x :: .int i :: .ref a :: st, h) ↔ az_mw' (h.1 a) i.toInt x (fun c => az_p161 C Q (26, lv, st, az_uh h a c)) := az_wp_iff.trans az_go_ias
theorem az_s161_26 : az_p161 C Q (26, lv, st, h) ↔ az_ma (lv 0) (fun x => az_p161 C Q (27, lv, x :: st, h)) := az_wp_iff.trans az_go_lda
theorem az_s161_27 {a : Nat} : az_p161 C Q (27, lv, .ref a :: st, h) ↔ az_mf (h.1 a) 11 46 (fun v => az_p161 C Q (30, lv, v :: st, h)) := az_wp_iff.trans az_go_gf
theorem az_s161_30 : az_p161 C Q (30, lv, st, h) ↔ az_ma (lv 0) (fun x => az_p161 C Q (31, lv, x :: st, h)) := az_wp_iff.trans az_go_lda
theorem az_s161_31 {a : Nat} : az_p161 C Q (31, lv, .ref a :: st, h) ↔ az_mf (h.1 a) 11 43 (fun v => az_p161 C Q (34, lv, v :: st, h)) := az_wp_iff.trans az_go_gf
theorem az_s161_34 : az_p161 C Q (34, lv, st, h) ↔ az_mi (lv 3) (fun x => az_p161 C Q (35, lv, .int x :: st, h)) := az_wp_iff.trans az_go_ldi
theorem az_s161_35 {a : Nat} {i x : Int32} : az_p161 C Q (35, lv, .int x :: .int i :: .ref a :: st, h) ↔ az_mw' (h.1 a) i.toInt x (fun c => az_p161 C Q (36, lv, st, az_uh h a c)) := az_wp_iff.trans az_go_ias
theorem az_s161_36 : az_p161 C Q (36, lv, st, h) ↔ az_ma (lv 0) (fun x => az_p161 C Q (37, lv, x :: st, h)) := az_wp_iff.trans az_go_lda
theorem az_s161_37 {a : Nat} : az_p161 C Q (37, lv, .ref a :: st, h) ↔ az_mf (h.1 a) 11 47 (fun v => az_p161 C Q (40, lv, v :: st, h)) := az_wp_iff.trans az_go_gf
theorem az_s161_40 : az_p161 C Q (40, lv, st, h) ↔ az_ma (lv 0) (fun x => az_p161 C Q (41, lv, x :: st, h)) := az_wp_iff.trans az_go_lda
theorem az_s161_41 {a : Nat} : az_p161 C Q (41, lv, .ref a :: st, h) ↔ az_mf (h.1 a) 11 43 (fun v => az_p161 C Q (44, lv, v :: st, h)) := az_wp_iff.trans az_go_gf
theorem az_s161_44 : az_p161 C Q (44, lv, st, h) ↔ az_ma (lv 0) (fun x => az_p161 C Q (45, lv, x :: st, h)) := az_wp_iff.trans az_go_lda
theorem az_s161_45 {a : Nat} : az_p161 C Q (45, lv, .ref a :: st, h) ↔ az_mf (h.1 a) 11 2 (fun v => az_p161 C Q (48, lv, v :: st, h)) := az_wp_iff.trans az_go_gf
theorem az_s161_48 {a : Nat} {i x : Int32} : az_p161 C Q (48, lv, .int x :: .int i :: .ref a :: st, h) ↔ az_mw' (h.1 a) i.toInt x (fun c => az_p161 C Q (49, lv, st, az_uh h a c)) := az_wp_iff.trans az_go_ias
theorem az_s161_49 : az_p161 C Q (49, lv, st, h) ↔ az_ma (lv 0) (fun x => az_p161 C Q (50, lv, x :: st, h)) := az_wp_iff.trans az_go_lda
theorem az_s161_50 {x : Int32} : az_p161 C Q (50, lv, .int x :: st, h) ↔ az_p161 C Q (51, lv, .int x :: .int x :: st, h) := az_wp_iff
theorem az_s161_50r {x : Nat} : az_p161 C Q (50, lv, .ref x :: st, h) ↔ az_p161 C Q (51, lv, .ref x :: .ref x :: st, h) := az_wp_iff
theorem az_s161_51 {a : Nat} : az_p161 C Q (51, lv, .ref a :: st, h) ↔ az_mf (h.1 a) 11 43 (fun v => az_p161 C Q (54, lv, v :: st, h)) := az_wp_iff.trans az_go_gf
theorem az_s161_54 : az_p161 C Q (54, lv, st, h) ↔ az_p161 C Q (55, lv, .int (Int32.ofInt (1)) :: st, h) := az_wp_iff
theorem az_s161_55 {x y : Int32} : az_p161 C Q (55, lv, .int y :: .int x :: st, h) ↔ az_p161 C Q (56, lv, .int (x + y) :: st, h) := az_wp_iff
theorem az_s161_56 {a : Nat} {v : Value} : az_p161 C Q (56, lv, v :: .ref a :: st, h) ↔ az_mp (h.1 a) 11 43 0 v (fun c => az_p161 C Q (59, lv, st, az_uh h a c)) := az_wp_iff.trans az_go_pf
theorem az_s161_59 : az_p161 C Q (59, lv, st, h) ↔ az_ma (lv 0) (fun x => az_p161 C Q (60, lv, x :: st, h)) := az_wp_iff.trans az_go_lda
theorem az_s161_60 {x : Int32} : az_p161 C Q (60, lv, .int x :: st, h) ↔ az_p161 C Q (61, lv, .int x :: .int x :: st, h) := az_wp_iff
theorem az_s161_60r {x : Nat} : az_p161 C Q (60, lv, .ref x :: st, h) ↔ az_p161 C Q (61, lv, .ref x :: .ref x :: st, h) := az_wp_iff
theorem az_s161_61 {a : Nat} : az_p161 C Q (61, lv, .ref a :: st, h) ↔ az_mf (h.1 a) 11 52 (fun v => az_p161 C Q (64, lv, v :: st, h)) := az_wp_iff.trans az_go_gf
theorem az_s161_64 : az_p161 C Q (64, lv, st, h) ↔ az_ma (lv 0) (fun x => az_p161 C Q (65, lv, x :: st, h)) := az_wp_iff.trans az_go_lda
theorem az_s161_65 {a : Nat} : az_p161 C Q (65, lv, .ref a :: st, h) ↔ az_mf (h.1 a) 11 34 (fun v => az_p161 C Q (68, lv, v :: st, h)) := az_wp_iff.trans az_go_gf
theorem az_s161_68 : az_p161 C Q (68, lv, st, h) ↔ az_mi (lv 2) (fun x => az_p161 C Q (69, lv, .int x :: st, h)) := az_wp_iff.trans az_go_ldi
theorem az_s161_69 {a : Nat} {i : Int32} : az_p161 C Q (69, lv, .int i :: .ref a :: st, h) ↔ az_mrl (h.1 a) i.toInt (fun x => az_p161 C Q (70, lv, .long x :: st, h)) := az_wp_iff.trans az_go_lal
theorem az_s161_70 {x y : Int64} : az_p161 C Q (70, lv, .long y :: .long x :: st, h) ↔ az_p161 C Q (71, lv, .long (x + y) :: st, h) := az_wp_iff
theorem az_s161_71 {a : Nat} {v : Value} : az_p161 C Q (71, lv, v :: .ref a :: st, h) ↔ az_mp (h.1 a) 11 52 1 v (fun c => az_p161 C Q (74, lv, st, az_uh h a c)) := az_wp_iff.trans az_go_pf
theorem az_s161_74 : az_p161 C Q (74, lv, [], h) ↔ Q none h := az_wp_iff
def az_p162 (C : az_Cl) (Q : Option Value → az_H → Prop) : az_S → Prop := az_wp C (fun _ => none) none (az_fn az_k162) Q
theorem az_s162_0 : az_p162 C Q (0, lv, st, h) ↔ az_ma (lv 0) (fun x => az_p162 C Q (1, lv, x :: st, h)) := az_wp_iff.trans az_go_lda
theorem az_s162_1 {a : Nat} : az_p162 C Q (1, lv, .ref a :: st, h) ↔ az_mf (h.1 a) 11 32 (fun v => az_p162 C Q (4, lv, v :: st, h)) := az_wp_iff.trans az_go_gf
theorem az_s162_4 : az_p162 C Q (4, lv, st, h) ↔ az_mi (lv 1) (fun x => az_p162 C Q (5, lv, .int x :: st, h)) := az_wp_iff.trans az_go_ldi
theorem az_s162_5 {x : Int32} {y : Nat} : az_p162 C Q (5, lv, .int x :: .ref y :: st, h) ↔ az_p162 C Q (6, lv, .int x :: .ref y :: .int x :: .ref y :: st, h) := az_wp_iff
theorem az_s162_5l {x : Int64} : az_p162 C Q (5, lv, .long x :: st, h) ↔ az_p162 C Q (6, lv, .long x :: .long x :: st, h) := az_wp_iff
theorem az_s162_6 {a : Nat} {i : Int32} : az_p162 C Q (6, lv, .int i :: .ref a :: st, h) ↔ az_mr (h.1 a) 0 i.toInt (fun x => az_p162 C Q (7, lv, .int x :: st, h)) := az_wp_iff.trans az_go_ial
theorem az_s162_7 : az_p162 C Q (7, lv, st, h) ↔ az_p162 C Q (8, lv, .int (Int32.ofInt (1)) :: st, h) := az_wp_iff
theorem az_s162_8 {x y : Int32} : az_p162 C Q (8, lv, .int y :: .int x :: st, h) ↔ az_p162 C Q (9, lv, .int (x + y) :: st, h) := az_wp_iff
theorem az_s162_9 {a : Nat} {i x : Int32} : az_p162 C Q (9, lv, .int x :: .int i :: .ref a :: st, h) ↔ az_mw' (h.1 a) i.toInt x (fun c => az_p162 C Q (10, lv, st, az_uh h a c)) := az_wp_iff.trans az_go_ias
theorem az_s162_10 : az_p162 C Q (10, lv, st, h) ↔ az_ma (lv 0) (fun x => az_p162 C Q (11, lv, x :: st, h)) := az_wp_iff.trans az_go_lda
theorem az_s162_11 {a : Nat} : az_p162 C Q (11, lv, .ref a :: st, h) ↔ az_mf (h.1 a) 11 16 (fun v => az_p162 C Q (14, lv, v :: st, h)) := az_wp_iff.trans az_go_gf
theorem az_s162_14 : az_p162 C Q (14, lv, st, h) ↔ az_p162 C Q (15, lv, .int (Int32.ofInt (3)) :: st, h) := az_wp_iff
theorem az_s162_15 : az_p162 C Q (15, lv, st, h) ↔ az_mi (lv 1) (fun x => az_p162 C Q (16, lv, .int x :: st, h)) := az_wp_iff.trans az_go_ldi
theorem az_s162_16 {x y : Int32} : az_p162 C Q (16, lv, .int y :: .int x :: st, h) ↔ az_p162 C Q (17, lv, .int (x * y) :: st, h) := az_wp_iff
theorem az_s162_17 : az_p162 C Q (17, lv, st, h) ↔ az_mi (lv 2) (fun x => az_p162 C Q (18, lv, .int x :: st, h)) := az_wp_iff.trans az_go_ldi
theorem az_s162_18 {x y : Int32} : az_p162 C Q (18, lv, .int y :: .int x :: st, h) ↔ az_p162 C Q (19, lv, .int (x + y) :: st, h) := az_wp_iff
theorem az_s162_19 {a : Nat} {i : Int32} : az_p162 C Q (19, lv, .int i :: .ref a :: st, h) ↔ az_mr (h.1 a) 0 i.toInt (fun x => az_p162 C Q (20, lv, .int x :: st, h)) := az_wp_iff.trans az_go_ial
theorem az_s162_20 {x : Int32} : az_p162 C Q (20, lv, .int x :: st, h) ↔ az_p162 C Q (21, (az_s1 lv 3 (.int x)), st, h) := az_wp_iff
theorem az_s162_21 : az_p162 C Q (21, lv, st, h) ↔ az_mi (lv 3) (fun x => az_p162 C Q (22, lv, .int x :: st, h)) := az_wp_iff.trans az_go_ldi
theorem az_s162_22 : az_p162 C Q (22, lv, st, h) ↔ az_p162 C Q (23, lv, .int (Int32.ofInt (1)) :: st, h) := az_wp_iff
theorem az_s162_23 {x y : Int32} : az_p162 C Q (23, lv, .int y :: .int x :: st, h) ↔ (¬ x = y → az_p162 C Q (48, lv, st, h)) ∧ (¬ ¬ x = y → az_p162 C Q (26, lv, st, h)) := az_wp_iff.trans (az_go_if2 az_d_eq)
theorem az_s162_26 : az_p162 C Q (26, lv, st, h) ↔ az_ma (lv 0) (fun x => az_p162 C Q (27, lv, x :: st, h)) := az_wp_iff.trans az_go_lda
theorem az_s162_27 {a : Nat} : az_p162 C Q (27, lv, .ref a :: st, h) ↔ az_mf (h.1 a) 11 8 (fun v => az_p162 C Q (30, lv, v :: st, h)) := az_wp_iff.trans az_go_gf
theorem az_s162_30 : az_p162 C Q (30, lv, st, h) ↔ az_mi (lv 1) (fun x => az_p162 C Q (31, lv, .int x :: st, h)) := az_wp_iff.trans az_go_ldi
theorem az_s162_31 {a : Nat} {i : Int32} : az_p162 C Q (31, lv, .int i :: .ref a :: st, h) ↔ az_mr (h.1 a) 0 i.toInt (fun x => az_p162 C Q (32, lv, .int x :: st, h)) := az_wp_iff.trans az_go_ial
theorem az_s162_32 : az_p162 C Q (32, lv, st, h) ↔ az_p162 C Q (33, lv, .int (Int32.ofInt (5)) :: st, h) := az_wp_iff
theorem az_s162_33 {x y : Int32} : az_p162 C Q (33, lv, .int y :: .int x :: st, h) ↔ (x = y → az_p162 C Q (46, lv, st, h)) ∧ (¬ x = y → az_p162 C Q (36, lv, st, h)) := az_wp_iff.trans (az_go_if2 az_d_eq)
theorem az_s162_36 : az_p162 C Q (36, lv, st, h) ↔ az_ma (lv 0) (fun x => az_p162 C Q (37, lv, x :: st, h)) := az_wp_iff.trans az_go_lda
theorem az_s162_37 {a : Nat} : az_p162 C Q (37, lv, .ref a :: st, h) ↔ az_mf (h.1 a) 11 8 (fun v => az_p162 C Q (40, lv, v :: st, h)) := az_wp_iff.trans az_go_gf
theorem az_s162_40 : az_p162 C Q (40, lv, st, h) ↔ az_mi (lv 1) (fun x => az_p162 C Q (41, lv, .int x :: st, h)) := az_wp_iff.trans az_go_ldi
theorem az_s162_41 {a : Nat} {i : Int32} : az_p162 C Q (41, lv, .int i :: .ref a :: st, h) ↔ az_mr (h.1 a) 0 i.toInt (fun x => az_p162 C Q (42, lv, .int x :: st, h)) := az_wp_iff.trans az_go_ial
theorem az_s162_42 : az_p162 C Q (42, lv, st, h) ↔ az_p162 C Q (43, lv, .int (Int32.ofInt (4)) :: st, h) := az_wp_iff
theorem az_s162_43 {x y : Int32} : az_p162 C Q (43, lv, .int y :: .int x :: st, h) ↔ (¬ x = y → az_p162 C Q (48, lv, st, h)) ∧ (¬ ¬ x = y → az_p162 C Q (46, lv, st, h)) := az_wp_iff.trans (az_go_if2 az_d_eq)
theorem az_s162_46 : az_p162 C Q (46, lv, st, h) ↔ az_p162 C Q (47, lv, .int (Int32.ofInt (0)) :: st, h) := az_wp_iff
theorem az_s162_47 {x : Int32} : az_p162 C Q (47, lv, .int x :: st, h) ↔ az_p162 C Q (48, (az_s1 lv 3 (.int x)), st, h) := az_wp_iff
theorem az_s162_48 : az_p162 C Q (48, lv, st, h) ↔ az_mi (lv 3) (fun x => az_p162 C Q (49, lv, .int x :: st, h)) := az_wp_iff.trans az_go_ldi
theorem az_s162_49 {x : Int32} : az_p162 C Q (49, lv, .int x :: st, h) ↔ (¬ x = 0 → az_p162 C Q (112, lv, st, h)) ∧ (¬ ¬ x = 0 → az_p162 C Q (52, lv, st, h)) := az_wp_iff.trans (az_go_if1 az_d_eq)
theorem az_s162_52 : az_p162 C Q (52, lv, st, h) ↔ az_ma (lv 0) (fun x => az_p162 C Q (53, lv, x :: st, h)) := az_wp_iff.trans az_go_lda
theorem az_s162_53 : az_p162 C Q (53, lv, st, h) ↔ az_mi (lv 1) (fun x => az_p162 C Q (54, lv, .int x :: st, h)) := az_wp_iff.trans az_go_ldi
theorem az_s162_54 : az_p162 C Q (54, lv, st, h) ↔ az_ma (lv 0) (fun x => az_p162 C Q (55, lv, x :: st, h)) := az_wp_iff.trans az_go_lda
theorem az_s162_55 {a : Nat} : az_p162 C Q (55, lv, .ref a :: st, h) ↔ az_mf (h.1 a) 11 21 (fun v => az_p162 C Q (58, lv, v :: st, h)) := az_wp_iff.trans az_go_gf
theorem az_s162_58 : az_p162 C Q (58, lv, st, h) ↔ az_mi (lv 1) (fun x => az_p162 C Q (59, lv, .int x :: st, h)) := az_wp_iff.trans az_go_ldi
theorem az_s162_59 {a : Nat} {i : Int32} : az_p162 C Q (59, lv, .int i :: .ref a :: st, h) ↔ az_mr (h.1 a) 0 i.toInt (fun x => az_p162 C Q (60, lv, .int x :: st, h)) := az_wp_iff.trans az_go_ial
theorem az_s162_60 : az_p162 C Q (60, lv, st, h) ↔ az_mi (lv 2) (fun x => az_p162 C Q (61, lv, .int x :: st, h)) := az_wp_iff.trans az_go_ldi
theorem az_s162_61 {a : Nat} {v1 v2 v3 : Value} : az_p162 C Q (61, lv, v3 :: v2 :: v1 :: .ref a :: st, h) ↔ az_isob (h.1 a) 11 = true ∧ az_cat st ≤ 8 ∧ az_mc C 161 [.ref a, v1, v2, v3] h (fun v h' => az_p162 C Q (64, lv, v ++ st, h')) := az_wp_iff.trans (az_go_if.trans (and_congr Iff.rfl az_go_call))
theorem az_s162_64 : az_p162 C Q (64, lv, st, h) ↔ az_ma (lv 0) (fun x => az_p162 C Q (65, lv, x :: st, h)) := az_wp_iff.trans az_go_lda
theorem az_s162_65 : az_p162 C Q (65, lv, st, h) ↔ az_mi (lv 1) (fun x => az_p162 C Q (66, lv, .int x :: st, h)) := az_wp_iff.trans az_go_ldi
theorem az_s162_66 : az_p162 C Q (66, lv, st, h) ↔ az_ma (lv 0) (fun x => az_p162 C Q (67, lv, x :: st, h)) := az_wp_iff.trans az_go_lda
theorem az_s162_67 {a : Nat} : az_p162 C Q (67, lv, .ref a :: st, h) ↔ az_mf (h.1 a) 11 22 (fun v => az_p162 C Q (70, lv, v :: st, h)) := az_wp_iff.trans az_go_gf
theorem az_s162_70 : az_p162 C Q (70, lv, st, h) ↔ az_mi (lv 1) (fun x => az_p162 C Q (71, lv, .int x :: st, h)) := az_wp_iff.trans az_go_ldi
theorem az_s162_71 {a : Nat} {i : Int32} : az_p162 C Q (71, lv, .int i :: .ref a :: st, h) ↔ az_mr (h.1 a) 0 i.toInt (fun x => az_p162 C Q (72, lv, .int x :: st, h)) := az_wp_iff.trans az_go_ial
theorem az_s162_72 : az_p162 C Q (72, lv, st, h) ↔ az_mi (lv 2) (fun x => az_p162 C Q (73, lv, .int x :: st, h)) := az_wp_iff.trans az_go_ldi
theorem az_s162_73 {a : Nat} {v1 v2 v3 : Value} : az_p162 C Q (73, lv, v3 :: v2 :: v1 :: .ref a :: st, h) ↔ az_isob (h.1 a) 11 = true ∧ az_cat st ≤ 8 ∧ az_mc C 161 [.ref a, v1, v2, v3] h (fun v h' => az_p162 C Q (76, lv, v ++ st, h')) := az_wp_iff.trans (az_go_if.trans (and_congr Iff.rfl az_go_call))
theorem az_s162_76 : az_p162 C Q (76, lv, st, h) ↔ az_ma (lv 0) (fun x => az_p162 C Q (77, lv, x :: st, h)) := az_wp_iff.trans az_go_lda
theorem az_s162_77 {a : Nat} : az_p162 C Q (77, lv, .ref a :: st, h) ↔ az_mf (h.1 a) 11 21 (fun v => az_p162 C Q (80, lv, v :: st, h)) := az_wp_iff.trans az_go_gf
theorem az_s162_80 : az_p162 C Q (80, lv, st, h) ↔ az_mi (lv 1) (fun x => az_p162 C Q (81, lv, .int x :: st, h)) := az_wp_iff.trans az_go_ldi
theorem az_s162_81 : az_p162 C Q (81, lv, st, h) ↔ az_p162 C Q (82, lv, .int (Int32.ofInt (-1)) :: st, h) := az_wp_iff
theorem az_s162_82 {a : Nat} {i x : Int32} : az_p162 C Q (82, lv, .int x :: .int i :: .ref a :: st, h) ↔ az_mw' (h.1 a) i.toInt x (fun c => az_p162 C Q (83, lv, st, az_uh h a c)) := az_wp_iff.trans az_go_ias
theorem az_s162_83 : az_p162 C Q (83, lv, st, h) ↔ az_ma (lv 0) (fun x => az_p162 C Q (84, lv, x :: st, h)) := az_wp_iff.trans az_go_lda
theorem az_s162_84 {a : Nat} : az_p162 C Q (84, lv, .ref a :: st, h) ↔ az_mf (h.1 a) 11 22 (fun v => az_p162 C Q (87, lv, v :: st, h)) := az_wp_iff.trans az_go_gf
theorem az_s162_87 : az_p162 C Q (87, lv, st, h) ↔ az_mi (lv 1) (fun x => az_p162 C Q (88, lv, .int x :: st, h)) := az_wp_iff.trans az_go_ldi
theorem az_s162_88 : az_p162 C Q (88, lv, st, h) ↔ az_p162 C Q (89, lv, .int (Int32.ofInt (-1)) :: st, h) := az_wp_iff
theorem az_s162_89 {a : Nat} {i x : Int32} : az_p162 C Q (89, lv, .int x :: .int i :: .ref a :: st, h) ↔ az_mw' (h.1 a) i.toInt x (fun c => az_p162 C Q (90, lv, st, az_uh h a c)) := az_wp_iff.trans az_go_ias
theorem az_s162_90 : az_p162 C Q (90, lv, st, h) ↔ az_ma (lv 0) (fun x => az_p162 C Q (91, lv, x :: st, h)) := az_wp_iff.trans az_go_lda
theorem az_s162_91 {a : Nat} : az_p162 C Q (91, lv, .ref a :: st, h) ↔ az_mf (h.1 a) 11 18 (fun v => az_p162 C Q (94, lv, v :: st, h)) := az_wp_iff.trans az_go_gf
theorem az_s162_94 : az_p162 C Q (94, lv, st, h) ↔ az_mi (lv 1) (fun x => az_p162 C Q (95, lv, .int x :: st, h)) := az_wp_iff.trans az_go_ldi
theorem az_s162_95 : az_p162 C Q (95, lv, st, h) ↔ az_p162 C Q (96, lv, .int (Int32.ofInt (3)) :: st, h) := az_wp_iff
theorem az_s162_96 {a : Nat} {i x : Int32} : az_p162 C Q (96, lv, .int x :: .int i :: .ref a :: st, h) ↔ az_mw' (h.1 a) i.toInt x (fun c => az_p162 C Q (97, lv, st, az_uh h a c)) := az_wp_iff.trans az_go_ias
theorem az_s162_97 : az_p162 C Q (97, lv, st, h) ↔ az_ma (lv 0) (fun x => az_p162 C Q (98, lv, x :: st, h)) := az_wp_iff.trans az_go_lda
theorem az_s162_98 {a : Nat} : az_p162 C Q (98, lv, .ref a :: st, h) ↔ az_mf (h.1 a) 11 19 (fun v => az_p162 C Q (101, lv, v :: st, h)) := az_wp_iff.trans az_go_gf
theorem az_s162_101 : az_p162 C Q (101, lv, st, h) ↔ az_mi (lv 1) (fun x => az_p162 C Q (102, lv, .int x :: st, h)) := az_wp_iff.trans az_go_ldi
theorem az_s162_102 : az_p162 C Q (102, lv, st, h) ↔ az_ma (lv 0) (fun x => az_p162 C Q (103, lv, x :: st, h)) := az_wp_iff.trans az_go_lda
theorem az_s162_103 {a : Nat} : az_p162 C Q (103, lv, .ref a :: st, h) ↔ az_mf (h.1 a) 11 17 (fun v => az_p162 C Q (106, lv, v :: st, h)) := az_wp_iff.trans az_go_gf
theorem az_s162_106 : az_p162 C Q (106, lv, st, h) ↔ az_mi (lv 1) (fun x => az_p162 C Q (107, lv, .int x :: st, h)) := az_wp_iff.trans az_go_ldi
theorem az_s162_107 {a : Nat} {i : Int32} : az_p162 C Q (107, lv, .int i :: .ref a :: st, h) ↔ az_mr (h.1 a) 0 i.toInt (fun x => az_p162 C Q (108, lv, .int x :: st, h)) := az_wp_iff.trans az_go_ial
theorem az_s162_108 {a : Nat} {i x : Int32} : az_p162 C Q (108, lv, .int x :: .int i :: .ref a :: st, h) ↔ az_mw' (h.1 a) i.toInt x (fun c => az_p162 C Q (109, lv, st, az_uh h a c)) := az_wp_iff.trans az_go_ias
theorem az_s162_109 : az_p162 C Q (109, lv, st, h) ↔ az_p162 C Q (171, lv, st, h) := az_wp_iff
theorem az_s162_112 : az_p162 C Q (112, lv, st, h) ↔ az_mi (lv 3) (fun x => az_p162 C Q (113, lv, .int x :: st, h)) := az_wp_iff.trans az_go_ldi
theorem az_s162_113 : az_p162 C Q (113, lv, st, h) ↔ az_p162 C Q (114, lv, .int (Int32.ofInt (1)) :: st, h) := az_wp_iff
theorem az_s162_114 {x y : Int32} : az_p162 C Q (114, lv, .int y :: .int x :: st, h) ↔ (¬ x = y → az_p162 C Q (162, lv, st, h)) ∧ (¬ ¬ x = y → az_p162 C Q (117, lv, st, h)) := az_wp_iff.trans (az_go_if2 az_d_eq)
theorem az_s162_117 : az_p162 C Q (117, lv, st, h) ↔ az_ma (lv 0) (fun x => az_p162 C Q (118, lv, x :: st, h)) := az_wp_iff.trans az_go_lda
theorem az_s162_118 : az_p162 C Q (118, lv, st, h) ↔ az_mi (lv 1) (fun x => az_p162 C Q (119, lv, .int x :: st, h)) := az_wp_iff.trans az_go_ldi
theorem az_s162_119 : az_p162 C Q (119, lv, st, h) ↔ az_ma (lv 0) (fun x => az_p162 C Q (120, lv, x :: st, h)) := az_wp_iff.trans az_go_lda
theorem az_s162_120 {a : Nat} : az_p162 C Q (120, lv, .ref a :: st, h) ↔ az_mf (h.1 a) 11 34 (fun v => az_p162 C Q (123, lv, v :: st, h)) := az_wp_iff.trans az_go_gf
theorem az_s162_123 : az_p162 C Q (123, lv, st, h) ↔ az_ma (lv 0) (fun x => az_p162 C Q (124, lv, x :: st, h)) := az_wp_iff.trans az_go_lda
theorem az_s162_124 {a : Nat} : az_p162 C Q (124, lv, .ref a :: st, h) ↔ az_mf (h.1 a) 11 21 (fun v => az_p162 C Q (127, lv, v :: st, h)) := az_wp_iff.trans az_go_gf
theorem az_s162_127 : az_p162 C Q (127, lv, st, h) ↔ az_mi (lv 1) (fun x => az_p162 C Q (128, lv, .int x :: st, h)) := az_wp_iff.trans az_go_ldi
theorem az_s162_128 {a : Nat} {i : Int32} : az_p162 C Q (128, lv, .int i :: .ref a :: st, h) ↔ az_mr (h.1 a) 0 i.toInt (fun x => az_p162 C Q (129, lv, .int x :: st, h)) := az_wp_iff.trans az_go_ial
theorem az_s162_129 {a : Nat} {i : Int32} : az_p162 C Q (129, lv, .int i :: .ref a :: st, h) ↔ az_mrl (h.1 a) i.toInt (fun x => az_p162 C Q (130, lv, .long x :: st, h)) := az_wp_iff.trans az_go_lal
theorem az_s162_130 : az_p162 C Q (130, lv, st, h) ↔ az_ma (lv 0) (fun x => az_p162 C Q (131, lv, x :: st, h)) := az_wp_iff.trans az_go_lda
theorem az_s162_131 {a : Nat} : az_p162 C Q (131, lv, .ref a :: st, h) ↔ az_mf (h.1 a) 11 35 (fun v => az_p162 C Q (134, lv, v :: st, h)) := az_wp_iff.trans az_go_gf
theorem az_s162_134 : az_p162 C Q (134, lv, st, h) ↔ az_ma (lv 0) (fun x => az_p162 C Q (135, lv, x :: st, h)) := az_wp_iff.trans az_go_lda
theorem az_s162_135 {a : Nat} : az_p162 C Q (135, lv, .ref a :: st, h) ↔ az_mf (h.1 a) 11 21 (fun v => az_p162 C Q (138, lv, v :: st, h)) := az_wp_iff.trans az_go_gf
theorem az_s162_138 : az_p162 C Q (138, lv, st, h) ↔ az_mi (lv 1) (fun x => az_p162 C Q (139, lv, .int x :: st, h)) := az_wp_iff.trans az_go_ldi
theorem az_s162_139 {a : Nat} {i : Int32} : az_p162 C Q (139, lv, .int i :: .ref a :: st, h) ↔ az_mr (h.1 a) 0 i.toInt (fun x => az_p162 C Q (140, lv, .int x :: st, h)) := az_wp_iff.trans az_go_ial
theorem az_s162_140 {a : Nat} {i : Int32} : az_p162 C Q (140, lv, .int i :: .ref a :: st, h) ↔ az_mr (h.1 a) 0 i.toInt (fun x => az_p162 C Q (141, lv, .int x :: st, h)) := az_wp_iff.trans az_go_ial
theorem az_s162_141 : az_p162 C Q (141, lv, st, h) ↔ az_p162 C Q (142, lv, .int (Int32.ofInt (0)) :: st, h) := az_wp_iff
theorem az_s162_142 {a : Nat} {v1 v2 v3 v4 : Value} : az_p162 C Q (142, lv, v4 :: v3 :: v2 :: v1 :: .ref a :: st, h) ↔ az_isob (h.1 a) 11 = true ∧ az_cat st ≤ 8 ∧ az_mc C 153 [.ref a, v1, v2, v3, v4] h (fun v h' => az_p162 C Q (145, lv, v ++ st, h')) := az_wp_iff.trans (az_go_if.trans (and_congr Iff.rfl az_go_call))
theorem az_s162_145 : az_p162 C Q (145, lv, st, h) ↔ az_ma (lv 0) (fun x => az_p162 C Q (146, lv, x :: st, h)) := az_wp_iff.trans az_go_lda
theorem az_s162_146 {a : Nat} : az_p162 C Q (146, lv, .ref a :: st, h) ↔ az_mf (h.1 a) 11 20 (fun v => az_p162 C Q (149, lv, v :: st, h)) := az_wp_iff.trans az_go_gf
theorem az_s162_149 : az_p162 C Q (149, lv, st, h) ↔ az_mi (lv 1) (fun x => az_p162 C Q (150, lv, .int x :: st, h)) := az_wp_iff.trans az_go_ldi
theorem az_s162_150 : az_p162 C Q (150, lv, st, h) ↔ az_p162 C Q (151, lv, .int (Int32.ofInt (1)) :: st, h) := az_wp_iff
theorem az_s162_151 {a : Nat} {i x : Int32} : az_p162 C Q (151, lv, .int x :: .int i :: .ref a :: st, h) ↔ az_mz (h.1 a) i.toInt x (fun c => az_p162 C Q (152, lv, st, az_uh h a c)) := az_wp_iff.trans az_go_zas
theorem az_s162_152 : az_p162 C Q (152, lv, st, h) ↔ az_ma (lv 0) (fun x => az_p162 C Q (153, lv, x :: st, h)) := az_wp_iff.trans az_go_lda
theorem az_s162_153 {a : Nat} : az_p162 C Q (153, lv, .ref a :: st, h) ↔ az_mf (h.1 a) 11 18 (fun v => az_p162 C Q (156, lv, v :: st, h)) := az_wp_iff.trans az_go_gf
theorem az_s162_156 : az_p162 C Q (156, lv, st, h) ↔ az_mi (lv 1) (fun x => az_p162 C Q (157, lv, .int x :: st, h)) := az_wp_iff.trans az_go_ldi
theorem az_s162_157 : az_p162 C Q (157, lv, st, h) ↔ az_p162 C Q (158, lv, .int (Int32.ofInt (2)) :: st, h) := az_wp_iff
theorem az_s162_158 {a : Nat} {i x : Int32} : az_p162 C Q (158, lv, .int x :: .int i :: .ref a :: st, h) ↔ az_mw' (h.1 a) i.toInt x (fun c => az_p162 C Q (159, lv, st, az_uh h a c)) := az_wp_iff.trans az_go_ias
theorem az_s162_159 : az_p162 C Q (159, lv, st, h) ↔ az_p162 C Q (171, lv, st, h) := az_wp_iff
theorem az_s162_162 : az_p162 C Q (162, lv, st, h) ↔ az_ma (lv 0) (fun x => az_p162 C Q (163, lv, x :: st, h)) := az_wp_iff.trans az_go_lda
theorem az_s162_163 : az_p162 C Q (163, lv, st, h) ↔ az_mi (lv 1) (fun x => az_p162 C Q (164, lv, .int x :: st, h)) := az_wp_iff.trans az_go_ldi
theorem az_s162_164 {a : Nat} {v1 : Value} : az_p162 C Q (164, lv, v1 :: .ref a :: st, h) ↔ az_isob (h.1 a) 11 = true ∧ az_cat st ≤ 8 ∧ az_mc C 163 [.ref a, v1] h (fun v h' => az_p162 C Q (167, lv, v ++ st, h')) := az_wp_iff.trans (az_go_if.trans (and_congr Iff.rfl az_go_call))
theorem az_s162_167 : az_p162 C Q (167, lv, st, h) ↔ az_ma (lv 0) (fun x => az_p162 C Q (168, lv, x :: st, h)) := az_wp_iff.trans az_go_lda
theorem az_s162_168 {a : Nat}  : az_p162 C Q (168, lv, .ref a :: st, h) ↔ az_isob (h.1 a) 11 = true ∧ az_cat st ≤ 8 ∧ az_mc C 164 [.ref a] h (fun v h' => az_p162 C Q (171, lv, v ++ st, h')) := az_wp_iff.trans (az_go_if.trans (and_congr Iff.rfl az_go_call))
theorem az_s162_171 : az_p162 C Q (171, lv, [], h) ↔ Q none h := az_wp_iff
def az_p163 (C : az_Cl) (Q : Option Value → az_H → Prop) : az_S → Prop := az_wp C (fun _ => none) none (az_fn az_k163) Q
theorem az_s163_0 : az_p163 C Q (0, lv, st, h) ↔ az_ma (lv 0) (fun x => az_p163 C Q (1, lv, x :: st, h)) := az_wp_iff.trans az_go_lda
theorem az_s163_1 {a : Nat} : az_p163 C Q (1, lv, .ref a :: st, h) ↔ az_mf (h.1 a) 11 21 (fun v => az_p163 C Q (4, lv, v :: st, h)) := az_wp_iff.trans az_go_gf
theorem az_s163_4 : az_p163 C Q (4, lv, st, h) ↔ az_mi (lv 1) (fun x => az_p163 C Q (5, lv, .int x :: st, h)) := az_wp_iff.trans az_go_ldi
theorem az_s163_5 {a : Nat} {i : Int32} : az_p163 C Q (5, lv, .int i :: .ref a :: st, h) ↔ az_mr (h.1 a) 0 i.toInt (fun x => az_p163 C Q (6, lv, .int x :: st, h)) := az_wp_iff.trans az_go_ial
theorem az_s163_6 : az_p163 C Q (6, lv, st, h) ↔ az_p163 C Q (7, lv, .int (Int32.ofInt (-1)) :: st, h) := az_wp_iff
theorem az_s163_7 {x y : Int32} : az_p163 C Q (7, lv, .int y :: .int x :: st, h) ↔ (x = y → az_p163 C Q (28, lv, st, h)) ∧ (¬ x = y → az_p163 C Q (10, lv, st, h)) := az_wp_iff.trans (az_go_if2 az_d_eq)
theorem az_s163_10 : az_p163 C Q (10, lv, st, h) ↔ az_ma (lv 0) (fun x => az_p163 C Q (11, lv, x :: st, h)) := az_wp_iff.trans az_go_lda
theorem az_s163_11 : az_p163 C Q (11, lv, st, h) ↔ az_ma (lv 0) (fun x => az_p163 C Q (12, lv, x :: st, h)) := az_wp_iff.trans az_go_lda
theorem az_s163_12 {a : Nat} : az_p163 C Q (12, lv, .ref a :: st, h) ↔ az_mf (h.1 a) 11 12 (fun v => az_p163 C Q (15, lv, v :: st, h)) := az_wp_iff.trans az_go_gf
theorem az_s163_15 : az_p163 C Q (15, lv, st, h) ↔ az_p163 C Q (16, lv, .int (Int32.ofInt (2)) :: st, h) := az_wp_iff
theorem az_s163_16 : az_p163 C Q (16, lv, st, h) ↔ az_mi (lv 1) (fun x => az_p163 C Q (17, lv, .int x :: st, h)) := az_wp_iff.trans az_go_ldi
theorem az_s163_17 {x y : Int32} : az_p163 C Q (17, lv, .int y :: .int x :: st, h) ↔ az_p163 C Q (18, lv, .int (x * y) :: st, h) := az_wp_iff
theorem az_s163_18 {a : Nat} {i : Int32} : az_p163 C Q (18, lv, .int i :: .ref a :: st, h) ↔ az_mr (h.1 a) 0 i.toInt (fun x => az_p163 C Q (19, lv, .int x :: st, h)) := az_wp_iff.trans az_go_ial
theorem az_s163_19 : az_p163 C Q (19, lv, st, h) ↔ az_ma (lv 0) (fun x => az_p163 C Q (20, lv, x :: st, h)) := az_wp_iff.trans az_go_lda
theorem az_s163_20 {a : Nat} : az_p163 C Q (20, lv, .ref a :: st, h) ↔ az_mf (h.1 a) 11 21 (fun v => az_p163 C Q (23, lv, v :: st, h)) := az_wp_iff.trans az_go_gf
theorem az_s163_23 : az_p163 C Q (23, lv, st, h) ↔ az_mi (lv 1) (fun x => az_p163 C Q (24, lv, .int x :: st, h)) := az_wp_iff.trans az_go_ldi
theorem az_s163_24 {a : Nat} {i : Int32} : az_p163 C Q (24, lv, .int i :: .ref a :: st, h) ↔ az_mr (h.1 a) 0 i.toInt (fun x => az_p163 C Q (25, lv, .int x :: st, h)) := az_wp_iff.trans az_go_ial
theorem az_s163_25 {a : Nat} {v1 v2 : Value} : az_p163 C Q (25, lv, v2 :: v1 :: .ref a :: st, h) ↔ az_isob (h.1 a) 11 = true ∧ az_cat st ≤ 8 ∧ az_mc C 150 [.ref a, v1, v2] h (fun v h' => az_p163 C Q (28, lv, v ++ st, h')) := az_wp_iff.trans (az_go_if.trans (and_congr Iff.rfl az_go_call))
theorem az_s163_28 : az_p163 C Q (28, lv, st, h) ↔ az_ma (lv 0) (fun x => az_p163 C Q (29, lv, x :: st, h)) := az_wp_iff.trans az_go_lda
theorem az_s163_29 {a : Nat} : az_p163 C Q (29, lv, .ref a :: st, h) ↔ az_mf (h.1 a) 11 22 (fun v => az_p163 C Q (32, lv, v :: st, h)) := az_wp_iff.trans az_go_gf
theorem az_s163_32 : az_p163 C Q (32, lv, st, h) ↔ az_mi (lv 1) (fun x => az_p163 C Q (33, lv, .int x :: st, h)) := az_wp_iff.trans az_go_ldi
theorem az_s163_33 {a : Nat} {i : Int32} : az_p163 C Q (33, lv, .int i :: .ref a :: st, h) ↔ az_mr (h.1 a) 0 i.toInt (fun x => az_p163 C Q (34, lv, .int x :: st, h)) := az_wp_iff.trans az_go_ial
theorem az_s163_34 : az_p163 C Q (34, lv, st, h) ↔ az_p163 C Q (35, lv, .int (Int32.ofInt (-1)) :: st, h) := az_wp_iff
theorem az_s163_35 {x y : Int32} : az_p163 C Q (35, lv, .int y :: .int x :: st, h) ↔ (x = y → az_p163 C Q (58, lv, st, h)) ∧ (¬ x = y → az_p163 C Q (38, lv, st, h)) := az_wp_iff.trans (az_go_if2 az_d_eq)
theorem az_s163_38 : az_p163 C Q (38, lv, st, h) ↔ az_ma (lv 0) (fun x => az_p163 C Q (39, lv, x :: st, h)) := az_wp_iff.trans az_go_lda
theorem az_s163_39 : az_p163 C Q (39, lv, st, h) ↔ az_ma (lv 0) (fun x => az_p163 C Q (40, lv, x :: st, h)) := az_wp_iff.trans az_go_lda
theorem az_s163_40 {a : Nat} : az_p163 C Q (40, lv, .ref a :: st, h) ↔ az_mf (h.1 a) 11 12 (fun v => az_p163 C Q (43, lv, v :: st, h)) := az_wp_iff.trans az_go_gf
theorem az_s163_43 : az_p163 C Q (43, lv, st, h) ↔ az_p163 C Q (44, lv, .int (Int32.ofInt (2)) :: st, h) := az_wp_iff
theorem az_s163_44 : az_p163 C Q (44, lv, st, h) ↔ az_mi (lv 1) (fun x => az_p163 C Q (45, lv, .int x :: st, h)) := az_wp_iff.trans az_go_ldi
theorem az_s163_45 {x y : Int32} : az_p163 C Q (45, lv, .int y :: .int x :: st, h) ↔ az_p163 C Q (46, lv, .int (x * y) :: st, h) := az_wp_iff
theorem az_s163_46 : az_p163 C Q (46, lv, st, h) ↔ az_p163 C Q (47, lv, .int (Int32.ofInt (1)) :: st, h) := az_wp_iff
theorem az_s163_47 {x y : Int32} : az_p163 C Q (47, lv, .int y :: .int x :: st, h) ↔ az_p163 C Q (48, lv, .int (x + y) :: st, h) := az_wp_iff
theorem az_s163_48 {a : Nat} {i : Int32} : az_p163 C Q (48, lv, .int i :: .ref a :: st, h) ↔ az_mr (h.1 a) 0 i.toInt (fun x => az_p163 C Q (49, lv, .int x :: st, h)) := az_wp_iff.trans az_go_ial
theorem az_s163_49 : az_p163 C Q (49, lv, st, h) ↔ az_ma (lv 0) (fun x => az_p163 C Q (50, lv, x :: st, h)) := az_wp_iff.trans az_go_lda
theorem az_s163_50 {a : Nat} : az_p163 C Q (50, lv, .ref a :: st, h) ↔ az_mf (h.1 a) 11 22 (fun v => az_p163 C Q (53, lv, v :: st, h)) := az_wp_iff.trans az_go_gf
theorem az_s163_53 : az_p163 C Q (53, lv, st, h) ↔ az_mi (lv 1) (fun x => az_p163 C Q (54, lv, .int x :: st, h)) := az_wp_iff.trans az_go_ldi
theorem az_s163_54 {a : Nat} {i : Int32} : az_p163 C Q (54, lv, .int i :: .ref a :: st, h) ↔ az_mr (h.1 a) 0 i.toInt (fun x => az_p163 C Q (55, lv, .int x :: st, h)) := az_wp_iff.trans az_go_ial
theorem az_s163_55 {a : Nat} {v1 v2 : Value} : az_p163 C Q (55, lv, v2 :: v1 :: .ref a :: st, h) ↔ az_isob (h.1 a) 11 = true ∧ az_cat st ≤ 8 ∧ az_mc C 150 [.ref a, v1, v2] h (fun v h' => az_p163 C Q (58, lv, v ++ st, h')) := az_wp_iff.trans (az_go_if.trans (and_congr Iff.rfl az_go_call))
theorem az_s163_58 : az_p163 C Q (58, lv, st, h) ↔ az_ma (lv 0) (fun x => az_p163 C Q (59, lv, x :: st, h)) := az_wp_iff.trans az_go_lda
theorem az_s163_59 {a : Nat} : az_p163 C Q (59, lv, .ref a :: st, h) ↔ az_mf (h.1 a) 11 21 (fun v => az_p163 C Q (62, lv, v :: st, h)) := az_wp_iff.trans az_go_gf
theorem az_s163_62 : az_p163 C Q (62, lv, st, h) ↔ az_mi (lv 1) (fun x => az_p163 C Q (63, lv, .int x :: st, h)) := az_wp_iff.trans az_go_ldi
theorem az_s163_63 : az_p163 C Q (63, lv, st, h) ↔ az_p163 C Q (64, lv, .int (Int32.ofInt (-1)) :: st, h) := az_wp_iff
theorem az_s163_64 {a : Nat} {i x : Int32} : az_p163 C Q (64, lv, .int x :: .int i :: .ref a :: st, h) ↔ az_mw' (h.1 a) i.toInt x (fun c => az_p163 C Q (65, lv, st, az_uh h a c)) := az_wp_iff.trans az_go_ias
theorem az_s163_65 : az_p163 C Q (65, lv, st, h) ↔ az_ma (lv 0) (fun x => az_p163 C Q (66, lv, x :: st, h)) := az_wp_iff.trans az_go_lda
theorem az_s163_66 {a : Nat} : az_p163 C Q (66, lv, .ref a :: st, h) ↔ az_mf (h.1 a) 11 22 (fun v => az_p163 C Q (69, lv, v :: st, h)) := az_wp_iff.trans az_go_gf
theorem az_s163_69 : az_p163 C Q (69, lv, st, h) ↔ az_mi (lv 1) (fun x => az_p163 C Q (70, lv, .int x :: st, h)) := az_wp_iff.trans az_go_ldi
theorem az_s163_70 : az_p163 C Q (70, lv, st, h) ↔ az_p163 C Q (71, lv, .int (Int32.ofInt (-1)) :: st, h) := az_wp_iff
theorem az_s163_71 {a : Nat} {i x : Int32} : az_p163 C Q (71, lv, .int x :: .int i :: .ref a :: st, h) ↔ az_mw' (h.1 a) i.toInt x (fun c => az_p163 C Q (72, lv, st, az_uh h a c)) := az_wp_iff.trans az_go_ias
theorem az_s163_72 : az_p163 C Q (72, lv, [], h) ↔ Q none h := az_wp_iff
def az_p164 (C : az_Cl) (Q : Option Value → az_H → Prop) : az_S → Prop := az_wp C (fun _ => none) none (az_fn az_k164) Q
theorem az_s164_0 : az_p164 C Q (0, lv, st, h) ↔ az_p164 C Q (1, lv, .int (Int32.ofInt (0)) :: st, h) := az_wp_iff
theorem az_s164_1 {x : Int32} : az_p164 C Q (1, lv, .int x :: st, h) ↔ az_p164 C Q (2, (az_s1 lv 1 (.int x)), st, h) := az_wp_iff
theorem az_s164_2 : az_p164 C Q (2, lv, st, h) ↔ az_mi (lv 1) (fun x => az_p164 C Q (3, lv, .int x :: st, h)) := az_wp_iff.trans az_go_ldi
theorem az_s164_3 : az_p164 C Q (3, lv, st, h) ↔ az_p164 C Q (5, lv, .int (Int32.ofInt (12)) :: st, h) := az_wp_iff
theorem az_s164_5 {x y : Int32} : az_p164 C Q (5, lv, .int y :: .int x :: st, h) ↔ (y ≤ x → az_p164 C Q (55, lv, st, h)) ∧ (¬ y ≤ x → az_p164 C Q (8, lv, st, h)) := az_wp_iff.trans (az_go_if2 az_d_eq)
theorem az_s164_8 : az_p164 C Q (8, lv, st, h) ↔ az_ma (lv 0) (fun x => az_p164 C Q (9, lv, x :: st, h)) := az_wp_iff.trans az_go_lda
theorem az_s164_9 {a : Nat} : az_p164 C Q (9, lv, .ref a :: st, h) ↔ az_mf (h.1 a) 11 7 (fun v => az_p164 C Q (12, lv, v :: st, h)) := az_wp_iff.trans az_go_gf
theorem az_s164_12 : az_p164 C Q (12, lv, st, h) ↔ az_mi (lv 1) (fun x => az_p164 C Q (13, lv, .int x :: st, h)) := az_wp_iff.trans az_go_ldi
theorem az_s164_13 {a : Nat} {i : Int32} : az_p164 C Q (13, lv, .int i :: .ref a :: st, h) ↔ az_mr (h.1 a) 1 i.toInt (fun x => az_p164 C Q (14, lv, .int x :: st, h)) := az_wp_iff.trans az_go_ial
theorem az_s164_14 {x : Int32} : az_p164 C Q (14, lv, .int x :: st, h) ↔ (¬ x = 0 → az_p164 C Q (20, lv, st, h)) ∧ (¬ ¬ x = 0 → az_p164 C Q (17, lv, st, h)) := az_wp_iff.trans (az_go_if1 az_d_eq)
theorem az_s164_17 : az_p164 C Q (17, lv, st, h) ↔ az_p164 C Q (49, lv, st, h) := az_wp_iff
theorem az_s164_20 : az_p164 C Q (20, lv, st, h) ↔ az_ma (lv 0) (fun x => az_p164 C Q (21, lv, x :: st, h)) := az_wp_iff.trans az_go_lda
theorem az_s164_21 {a : Nat} : az_p164 C Q (21, lv, .ref a :: st, h) ↔ az_mf (h.1 a) 11 18 (fun v => az_p164 C Q (24, lv, v :: st, h)) := az_wp_iff.trans az_go_gf
theorem az_s164_24 : az_p164 C Q (24, lv, st, h) ↔ az_mi (lv 1) (fun x => az_p164 C Q (25, lv, .int x :: st, h)) := az_wp_iff.trans az_go_ldi
theorem az_s164_25 {a : Nat} {i : Int32} : az_p164 C Q (25, lv, .int i :: .ref a :: st, h) ↔ az_mr (h.1 a) 0 i.toInt (fun x => az_p164 C Q (26, lv, .int x :: st, h)) := az_wp_iff.trans az_go_ial
theorem az_s164_26 : az_p164 C Q (26, lv, st, h) ↔ az_p164 C Q (27, lv, .int (Int32.ofInt (1)) :: st, h) := az_wp_iff
theorem az_s164_27 {x y : Int32} : az_p164 C Q (27, lv, .int y :: .int x :: st, h) ↔ (¬ x = y → az_p164 C Q (35, lv, st, h)) ∧ (¬ ¬ x = y → az_p164 C Q (30, lv, st, h)) := az_wp_iff.trans (az_go_if2 az_d_eq)
theorem az_s164_30 : az_p164 C Q (30, lv, st, h) ↔ az_ma (lv 0) (fun x => az_p164 C Q (31, lv, x :: st, h)) := az_wp_iff.trans az_go_lda
theorem az_s164_31 : az_p164 C Q (31, lv, st, h) ↔ az_mi (lv 1) (fun x => az_p164 C Q (32, lv, .int x :: st, h)) := az_wp_iff.trans az_go_ldi
theorem az_s164_32 {a : Nat} {v1 : Value} : az_p164 C Q (32, lv, v1 :: .ref a :: st, h) ↔ az_isob (h.1 a) 11 = true ∧ az_cat st ≤ 8 ∧ az_mc C 163 [.ref a, v1] h (fun v h' => az_p164 C Q (35, lv, v ++ st, h')) := az_wp_iff.trans (az_go_if.trans (and_congr Iff.rfl az_go_call))
theorem az_s164_35 : az_p164 C Q (35, lv, st, h) ↔ az_ma (lv 0) (fun x => az_p164 C Q (36, lv, x :: st, h)) := az_wp_iff.trans az_go_lda
theorem az_s164_36 {a : Nat} : az_p164 C Q (36, lv, .ref a :: st, h) ↔ az_mf (h.1 a) 11 18 (fun v => az_p164 C Q (39, lv, v :: st, h)) := az_wp_iff.trans az_go_gf
theorem az_s164_39 : az_p164 C Q (39, lv, st, h) ↔ az_mi (lv 1) (fun x => az_p164 C Q (40, lv, .int x :: st, h)) := az_wp_iff.trans az_go_ldi
theorem az_s164_40 : az_p164 C Q (40, lv, st, h) ↔ az_p164 C Q (41, lv, .int (Int32.ofInt (4)) :: st, h) := az_wp_iff
theorem az_s164_41 {a : Nat} {i x : Int32} : az_p164 C Q (41, lv, .int x :: .int i :: .ref a :: st, h) ↔ az_mw' (h.1 a) i.toInt x (fun c => az_p164 C Q (42, lv, st, az_uh h a c)) := az_wp_iff.trans az_go_ias
theorem az_s164_42 : az_p164 C Q (42, lv, st, h) ↔ az_ma (lv 0) (fun x => az_p164 C Q (43, lv, x :: st, h)) := az_wp_iff.trans az_go_lda
theorem az_s164_43 {a : Nat} : az_p164 C Q (43, lv, .ref a :: st, h) ↔ az_mf (h.1 a) 11 19 (fun v => az_p164 C Q (46, lv, v :: st, h)) := az_wp_iff.trans az_go_gf
theorem az_s164_46 : az_p164 C Q (46, lv, st, h) ↔ az_mi (lv 1) (fun x => az_p164 C Q (47, lv, .int x :: st, h)) := az_wp_iff.trans az_go_ldi
theorem az_s164_47 : az_p164 C Q (47, lv, st, h) ↔ az_p164 C Q (48, lv, .int (Int32.ofInt (0)) :: st, h) := az_wp_iff
theorem az_s164_48 {a : Nat} {i x : Int32} : az_p164 C Q (48, lv, .int x :: .int i :: .ref a :: st, h) ↔ az_mw' (h.1 a) i.toInt x (fun c => az_p164 C Q (49, lv, st, az_uh h a c)) := az_wp_iff.trans az_go_ias
theorem az_s164_49 : az_p164 C Q (49, lv, st, h) ↔ az_mi (lv 1) (fun x => az_p164 C Q (52, (az_s1 lv 1 (.int (x + Int32.ofInt (1)))), st, h)) := az_wp_iff.trans az_go_inc
theorem az_s164_52 : az_p164 C Q (52, lv, st, h) ↔ az_p164 C Q (2, lv, st, h) := az_wp_iff
theorem az_s164_55 : az_p164 C Q (55, lv, [], h) ↔ Q none h := az_wp_iff
def az_p165 (C : az_Cl) (Q : Option Value → az_H → Prop) : az_S → Prop := az_wp C (fun _ => none) none (az_fn az_k165) Q
theorem az_s165_0 : az_p165 C Q (0, lv, st, h) ↔ az_ma (lv 0) (fun x => az_p165 C Q (1, lv, x :: st, h)) := az_wp_iff.trans az_go_lda
theorem az_s165_1 {a : Nat} : az_p165 C Q (1, lv, .ref a :: st, h) ↔ az_mf (h.1 a) 11 28 (fun v => az_p165 C Q (4, lv, v :: st, h)) := az_wp_iff.trans az_go_gf
theorem az_s165_4 : az_p165 C Q (4, lv, st, h) ↔ az_mi (lv 1) (fun x => az_p165 C Q (5, lv, .int x :: st, h)) := az_wp_iff.trans az_go_ldi
theorem az_s165_5 {x : Int32} {y : Nat} : az_p165 C Q (5, lv, .int x :: .ref y :: st, h) ↔ az_p165 C Q (6, lv, .int x :: .ref y :: .int x :: .ref y :: st, h) := az_wp_iff
theorem az_s165_5l {x : Int64} : az_p165 C Q (5, lv, .long x :: st, h) ↔ az_p165 C Q (6, lv, .long x :: .long x :: st, h) := az_wp_iff
theorem az_s165_6 {a : Nat} {i : Int32} : az_p165 C Q (6, lv, .int i :: .ref a :: st, h) ↔ az_mr (h.1 a) 0 i.toInt (fun x => az_p165 C Q (7, lv, .int x :: st, h)) := az_wp_iff.trans az_go_ial
theorem az_s165_7 : az_p165 C Q (7, lv, st, h) ↔ az_p165 C Q (8, lv, .int (Int32.ofInt (1)) :: st, h) := az_wp_iff
theorem az_s165_8 {x y : Int32} : az_p165 C Q (8, lv, .int y :: .int x :: st, h) ↔ az_p165 C Q (9, lv, .int (x + y) :: st, h) := az_wp_iff
theorem az_s165_9 {a : Nat} {i x : Int32} : az_p165 C Q (9, lv, .int x :: .int i :: .ref a :: st, h) ↔ az_mw' (h.1 a) i.toInt x (fun c => az_p165 C Q (10, lv, st, az_uh h a c)) := az_wp_iff.trans az_go_ias
theorem az_s165_10 : az_p165 C Q (10, lv, st, h) ↔ az_p165 C Q (11, lv, .int (Int32.ofInt (0)) :: st, h) := az_wp_iff
theorem az_s165_11 {x : Int32} : az_p165 C Q (11, lv, .int x :: st, h) ↔ az_p165 C Q (12, (az_s1 lv 2 (.int x)), st, h) := az_wp_iff
theorem az_s165_12 : az_p165 C Q (12, lv, st, h) ↔ az_mi (lv 2) (fun x => az_p165 C Q (13, lv, .int x :: st, h)) := az_wp_iff.trans az_go_ldi
theorem az_s165_13 : az_p165 C Q (13, lv, st, h) ↔ az_ma (lv 0) (fun x => az_p165 C Q (14, lv, x :: st, h)) := az_wp_iff.trans az_go_lda
theorem az_s165_14 {a : Nat} : az_p165 C Q (14, lv, .ref a :: st, h) ↔ az_mf (h.1 a) 11 38 (fun v => az_p165 C Q (17, lv, v :: st, h)) := az_wp_iff.trans az_go_gf
theorem az_s165_17 {x y : Int32} : az_p165 C Q (17, lv, .int y :: .int x :: st, h) ↔ (y ≤ x → az_p165 C Q (73, lv, st, h)) ∧ (¬ y ≤ x → az_p165 C Q (20, lv, st, h)) := az_wp_iff.trans (az_go_if2 az_d_eq)
theorem az_s165_20 : az_p165 C Q (20, lv, st, h) ↔ az_ma (lv 0) (fun x => az_p165 C Q (21, lv, x :: st, h)) := az_wp_iff.trans az_go_lda
theorem az_s165_21 {a : Nat} : az_p165 C Q (21, lv, .ref a :: st, h) ↔ az_mf (h.1 a) 11 39 (fun v => az_p165 C Q (24, lv, v :: st, h)) := az_wp_iff.trans az_go_gf
theorem az_s165_24 : az_p165 C Q (24, lv, st, h) ↔ az_mi (lv 2) (fun x => az_p165 C Q (25, lv, .int x :: st, h)) := az_wp_iff.trans az_go_ldi
theorem az_s165_25 {a : Nat} {i : Int32} : az_p165 C Q (25, lv, .int i :: .ref a :: st, h) ↔ az_mr (h.1 a) 0 i.toInt (fun x => az_p165 C Q (26, lv, .int x :: st, h)) := az_wp_iff.trans az_go_ial
theorem az_s165_26 : az_p165 C Q (26, lv, st, h) ↔ az_mi (lv 1) (fun x => az_p165 C Q (27, lv, .int x :: st, h)) := az_wp_iff.trans az_go_ldi
theorem az_s165_27 {x y : Int32} : az_p165 C Q (27, lv, .int y :: .int x :: st, h) ↔ (¬ x = y → az_p165 C Q (67, lv, st, h)) ∧ (¬ ¬ x = y → az_p165 C Q (30, lv, st, h)) := az_wp_iff.trans (az_go_if2 az_d_eq)
theorem az_s165_30 : az_p165 C Q (30, lv, st, h) ↔ az_ma (lv 0) (fun x => az_p165 C Q (31, lv, x :: st, h)) := az_wp_iff.trans az_go_lda
theorem az_s165_31 {a : Nat} : az_p165 C Q (31, lv, .ref a :: st, h) ↔ az_mf (h.1 a) 11 40 (fun v => az_p165 C Q (34, lv, v :: st, h)) := az_wp_iff.trans az_go_gf
theorem az_s165_34 : az_p165 C Q (34, lv, st, h) ↔ az_mi (lv 2) (fun x => az_p165 C Q (35, lv, .int x :: st, h)) := az_wp_iff.trans az_go_ldi
theorem az_s165_35 {a : Nat} {i : Int32} : az_p165 C Q (35, lv, .int i :: .ref a :: st, h) ↔ az_mr (h.1 a) 0 i.toInt (fun x => az_p165 C Q (36, lv, .int x :: st, h)) := az_wp_iff.trans az_go_ial
theorem az_s165_36 : az_p165 C Q (36, lv, st, h) ↔ az_ma (lv 0) (fun x => az_p165 C Q (37, lv, x :: st, h)) := az_wp_iff.trans az_go_lda
theorem az_s165_37 {a : Nat} : az_p165 C Q (37, lv, .ref a :: st, h) ↔ az_mf (h.1 a) 11 28 (fun v => az_p165 C Q (40, lv, v :: st, h)) := az_wp_iff.trans az_go_gf
theorem az_s165_40 : az_p165 C Q (40, lv, st, h) ↔ az_mi (lv 1) (fun x => az_p165 C Q (41, lv, .int x :: st, h)) := az_wp_iff.trans az_go_ldi
theorem az_s165_41 {a : Nat} {i : Int32} : az_p165 C Q (41, lv, .int i :: .ref a :: st, h) ↔ az_mr (h.1 a) 0 i.toInt (fun x => az_p165 C Q (42, lv, .int x :: st, h)) := az_wp_iff.trans az_go_ial
theorem az_s165_42 {x y : Int32} : az_p165 C Q (42, lv, .int y :: .int x :: st, h) ↔ (x = y → az_p165 C Q (48, lv, st, h)) ∧ (¬ x = y → az_p165 C Q (45, lv, st, h)) := az_wp_iff.trans (az_go_if2 az_d_eq)
theorem az_s165_45 : az_p165 C Q (45, lv, st, h) ↔ az_p165 C Q (67, lv, st, h) := az_wp_iff
theorem az_s165_48 : az_p165 C Q (48, lv, st, h) ↔ az_ma (lv 0) (fun x => az_p165 C Q (49, lv, x :: st, h)) := az_wp_iff.trans az_go_lda
theorem az_s165_49 {a : Nat} : az_p165 C Q (49, lv, .ref a :: st, h) ↔ az_mf (h.1 a) 11 42 (fun v => az_p165 C Q (52, lv, v :: st, h)) := az_wp_iff.trans az_go_gf
theorem az_s165_52 : az_p165 C Q (52, lv, st, h) ↔ az_mi (lv 2) (fun x => az_p165 C Q (53, lv, .int x :: st, h)) := az_wp_iff.trans az_go_ldi
theorem az_s165_53 : az_p165 C Q (53, lv, st, h) ↔ az_p165 C Q (54, lv, .int (Int32.ofInt (1)) :: st, h) := az_wp_iff
theorem az_s165_54 {a : Nat} {i x : Int32} : az_p165 C Q (54, lv, .int x :: .int i :: .ref a :: st, h) ↔ az_mz (h.1 a) i.toInt x (fun c => az_p165 C Q (55, lv, st, az_uh h a c)) := az_wp_iff.trans az_go_zas
theorem az_s165_55 : az_p165 C Q (55, lv, st, h) ↔ az_ma (lv 0) (fun x => az_p165 C Q (56, lv, x :: st, h)) := az_wp_iff.trans az_go_lda
theorem az_s165_56 : az_p165 C Q (56, lv, st, h) ↔ az_mi (lv 1) (fun x => az_p165 C Q (57, lv, .int x :: st, h)) := az_wp_iff.trans az_go_ldi
theorem az_s165_57 : az_p165 C Q (57, lv, st, h) ↔ az_ma (lv 0) (fun x => az_p165 C Q (58, lv, x :: st, h)) := az_wp_iff.trans az_go_lda
theorem az_s165_58 {a : Nat} : az_p165 C Q (58, lv, .ref a :: st, h) ↔ az_mf (h.1 a) 11 41 (fun v => az_p165 C Q (61, lv, v :: st, h)) := az_wp_iff.trans az_go_gf
theorem az_s165_61 : az_p165 C Q (61, lv, st, h) ↔ az_mi (lv 2) (fun x => az_p165 C Q (62, lv, .int x :: st, h)) := az_wp_iff.trans az_go_ldi
theorem az_s165_62 {a : Nat} {i : Int32} : az_p165 C Q (62, lv, .int i :: .ref a :: st, h) ↔ az_mr (h.1 a) 0 i.toInt (fun x => az_p165 C Q (63, lv, .int x :: st, h)) := az_wp_iff.trans az_go_ial
theorem az_s165_63 {a : Nat} {v1 v2 : Value} : az_p165 C Q (63, lv, v2 :: v1 :: .ref a :: st, h) ↔ az_isob (h.1 a) 11 = true ∧ az_cat st ≤ 8 ∧ az_mc C 162 [.ref a, v1, v2] h (fun v h' => az_p165 C Q (66, lv, v ++ st, h')) := az_wp_iff.trans (az_go_if.trans (and_congr Iff.rfl az_go_call))
theorem az_s165_66 : az_p165 C Q (66, lv, [], h) ↔ Q none h := az_wp_iff
theorem az_s165_67 : az_p165 C Q (67, lv, st, h) ↔ az_mi (lv 2) (fun x => az_p165 C Q (70, (az_s1 lv 2 (.int (x + Int32.ofInt (1)))), st, h)) := az_wp_iff.trans az_go_inc
theorem az_s165_70 : az_p165 C Q (70, lv, st, h) ↔ az_p165 C Q (12, lv, st, h) := az_wp_iff
theorem az_s165_73 : az_p165 C Q (73, lv, st, h) ↔ az_ma (lv 0) (fun x => az_p165 C Q (74, lv, x :: st, h)) := az_wp_iff.trans az_go_lda
theorem az_s165_74 : az_p165 C Q (74, lv, st, h) ↔ az_mi (lv 1) (fun x => az_p165 C Q (75, lv, .int x :: st, h)) := az_wp_iff.trans az_go_ldi
theorem az_s165_75 {a : Nat} {v1 : Value} : az_p165 C Q (75, lv, v1 :: .ref a :: st, h) ↔ az_isob (h.1 a) 11 = true ∧ az_cat st ≤ 8 ∧ az_mc C 160 [.ref a, v1] h (fun v h' => az_p165 C Q (78, lv, v ++ st, h')) := az_wp_iff.trans (az_go_if.trans (and_congr Iff.rfl az_go_call))
theorem az_s165_78 : az_p165 C Q (78, lv, st, h) ↔ az_ma (lv 0) (fun x => az_p165 C Q (79, lv, x :: st, h)) := az_wp_iff.trans az_go_lda
theorem az_s165_79 {a : Nat} : az_p165 C Q (79, lv, .ref a :: st, h) ↔ az_mf (h.1 a) 11 20 (fun v => az_p165 C Q (82, lv, v :: st, h)) := az_wp_iff.trans az_go_gf
theorem az_s165_82 : az_p165 C Q (82, lv, st, h) ↔ az_mi (lv 1) (fun x => az_p165 C Q (83, lv, .int x :: st, h)) := az_wp_iff.trans az_go_ldi
theorem az_s165_83 : az_p165 C Q (83, lv, st, h) ↔ az_ma (lv 0) (fun x => az_p165 C Q (84, lv, x :: st, h)) := az_wp_iff.trans az_go_lda
theorem az_s165_84 {a : Nat} : az_p165 C Q (84, lv, .ref a :: st, h) ↔ az_mf (h.1 a) 11 23 (fun v => az_p165 C Q (87, lv, v :: st, h)) := az_wp_iff.trans az_go_gf
theorem az_s165_87 : az_p165 C Q (87, lv, st, h) ↔ az_mi (lv 1) (fun x => az_p165 C Q (88, lv, .int x :: st, h)) := az_wp_iff.trans az_go_ldi
theorem az_s165_88 {a : Nat} {i : Int32} : az_p165 C Q (88, lv, .int i :: .ref a :: st, h) ↔ az_mr (h.1 a) 0 i.toInt (fun x => az_p165 C Q (89, lv, .int x :: st, h)) := az_wp_iff.trans az_go_ial
theorem az_s165_89 {x : Int32} : az_p165 C Q (89, lv, .int x :: st, h) ↔ (x ≤ 0 → az_p165 C Q (96, lv, st, h)) ∧ (¬ x ≤ 0 → az_p165 C Q (92, lv, st, h)) := az_wp_iff.trans (az_go_if1 az_d_eq)
theorem az_s165_92 : az_p165 C Q (92, lv, st, h) ↔ az_p165 C Q (93, lv, .int (Int32.ofInt (1)) :: st, h) := az_wp_iff
theorem az_s165_93 : az_p165 C Q (93, lv, st, h) ↔ az_p165 C Q (97, lv, st, h) := az_wp_iff
theorem az_s165_96 : az_p165 C Q (96, lv, st, h) ↔ az_p165 C Q (97, lv, .int (Int32.ofInt (0)) :: st, h) := az_wp_iff
theorem az_s165_97 {a : Nat} {i x : Int32} : az_p165 C Q (97, lv, .int x :: .int i :: .ref a :: st, h) ↔ az_mz (h.1 a) i.toInt x (fun c => az_p165 C Q (98, lv, st, az_uh h a c)) := az_wp_iff.trans az_go_zas
theorem az_s165_98 : az_p165 C Q (98, lv, st, h) ↔ az_ma (lv 0) (fun x => az_p165 C Q (99, lv, x :: st, h)) := az_wp_iff.trans az_go_lda
theorem az_s165_99 {a : Nat} : az_p165 C Q (99, lv, .ref a :: st, h) ↔ az_mf (h.1 a) 11 18 (fun v => az_p165 C Q (102, lv, v :: st, h)) := az_wp_iff.trans az_go_gf
theorem az_s165_102 : az_p165 C Q (102, lv, st, h) ↔ az_mi (lv 1) (fun x => az_p165 C Q (103, lv, .int x :: st, h)) := az_wp_iff.trans az_go_ldi
theorem az_s165_103 : az_p165 C Q (103, lv, st, h) ↔ az_ma (lv 0) (fun x => az_p165 C Q (104, lv, x :: st, h)) := az_wp_iff.trans az_go_lda
theorem az_s165_104 {a : Nat} : az_p165 C Q (104, lv, .ref a :: st, h) ↔ az_mf (h.1 a) 11 20 (fun v => az_p165 C Q (107, lv, v :: st, h)) := az_wp_iff.trans az_go_gf
theorem az_s165_107 : az_p165 C Q (107, lv, st, h) ↔ az_mi (lv 1) (fun x => az_p165 C Q (108, lv, .int x :: st, h)) := az_wp_iff.trans az_go_ldi
theorem az_s165_108 {a : Nat} {i : Int32} : az_p165 C Q (108, lv, .int i :: .ref a :: st, h) ↔ az_mr (h.1 a) 1 i.toInt (fun x => az_p165 C Q (109, lv, .int x :: st, h)) := az_wp_iff.trans az_go_ial
theorem az_s165_109 {x : Int32} : az_p165 C Q (109, lv, .int x :: st, h) ↔ (x = 0 → az_p165 C Q (116, lv, st, h)) ∧ (¬ x = 0 → az_p165 C Q (112, lv, st, h)) := az_wp_iff.trans (az_go_if1 az_d_eq)
theorem az_s165_112 : az_p165 C Q (112, lv, st, h) ↔ az_p165 C Q (113, lv, .int (Int32.ofInt (2)) :: st, h) := az_wp_iff
theorem az_s165_113 : az_p165 C Q (113, lv, st, h) ↔ az_p165 C Q (117, lv, st, h) := az_wp_iff
theorem az_s165_116 : az_p165 C Q (116, lv, st, h) ↔ az_p165 C Q (117, lv, .int (Int32.ofInt (0)) :: st, h) := az_wp_iff
theorem az_s165_117 {a : Nat} {i x : Int32} : az_p165 C Q (117, lv, .int x :: .int i :: .ref a :: st, h) ↔ az_mw' (h.1 a) i.toInt x (fun c => az_p165 C Q (118, lv, st, az_uh h a c)) := az_wp_iff.trans az_go_ias
theorem az_s165_118 : az_p165 C Q (118, lv, [], h) ↔ Q none h := az_wp_iff
def az_p166 (C : az_Cl) (Q : Option Value → az_H → Prop) : az_S → Prop := az_wp C (fun _ => none) (some .int) (az_fn az_k166) Q
theorem az_s166_0 : az_p166 C Q (0, lv, st, h) ↔ az_p166 C Q (1, lv, .int (Int32.ofInt (0)) :: st, h) := az_wp_iff
theorem az_s166_1 {x : Int32} : az_p166 C Q (1, lv, .int x :: st, h) ↔ az_p166 C Q (2, (az_s1 lv 3 (.int x)), st, h) := az_wp_iff
theorem az_s166_2 : az_p166 C Q (2, lv, st, h) ↔ az_p166 C Q (3, lv, .int (Int32.ofInt (0)) :: st, h) := az_wp_iff
theorem az_s166_3 {x : Int32} : az_p166 C Q (3, lv, .int x :: st, h) ↔ az_p166 C Q (5, (az_s1 lv 4 (.int x)), st, h) := az_wp_iff
theorem az_s166_5 : az_p166 C Q (5, lv, st, h) ↔ az_mi (lv 4) (fun x => az_p166 C Q (7, lv, .int x :: st, h)) := az_wp_iff.trans az_go_ldi
theorem az_s166_7 : az_p166 C Q (7, lv, st, h) ↔ az_ma (lv 0) (fun x => az_p166 C Q (8, lv, x :: st, h)) := az_wp_iff.trans az_go_lda
theorem az_s166_8 {a : Nat} : az_p166 C Q (8, lv, .ref a :: st, h) ↔ az_mf (h.1 a) 11 23 (fun v => az_p166 C Q (11, lv, v :: st, h)) := az_wp_iff.trans az_go_gf
theorem az_s166_11 : az_p166 C Q (11, lv, st, h) ↔ az_mi (lv 1) (fun x => az_p166 C Q (12, lv, .int x :: st, h)) := az_wp_iff.trans az_go_ldi
theorem az_s166_12 {a : Nat} {i : Int32} : az_p166 C Q (12, lv, .int i :: .ref a :: st, h) ↔ az_mr (h.1 a) 0 i.toInt (fun x => az_p166 C Q (13, lv, .int x :: st, h)) := az_wp_iff.trans az_go_ial
theorem az_s166_13 {x y : Int32} : az_p166 C Q (13, lv, .int y :: .int x :: st, h) ↔ (y ≤ x → az_p166 C Q (54, lv, st, h)) ∧ (¬ y ≤ x → az_p166 C Q (16, lv, st, h)) := az_wp_iff.trans (az_go_if2 az_d_eq)
theorem az_s166_16 : az_p166 C Q (16, lv, st, h) ↔ az_mi (lv 3) (fun x => az_p166 C Q (17, lv, .int x :: st, h)) := az_wp_iff.trans az_go_ldi
theorem az_s166_17 : az_p166 C Q (17, lv, st, h) ↔ az_ma (lv 0) (fun x => az_p166 C Q (18, lv, x :: st, h)) := az_wp_iff.trans az_go_lda
theorem az_s166_18 {a : Nat} : az_p166 C Q (18, lv, .ref a :: st, h) ↔ az_mf (h.1 a) 11 14 (fun v => az_p166 C Q (21, lv, v :: st, h)) := az_wp_iff.trans az_go_gf
theorem az_s166_21 : az_p166 C Q (21, lv, st, h) ↔ az_p166 C Q (22, lv, .int (Int32.ofInt (3)) :: st, h) := az_wp_iff
theorem az_s166_22 : az_p166 C Q (22, lv, st, h) ↔ az_mi (lv 1) (fun x => az_p166 C Q (23, lv, .int x :: st, h)) := az_wp_iff.trans az_go_ldi
theorem az_s166_23 {x y : Int32} : az_p166 C Q (23, lv, .int y :: .int x :: st, h) ↔ az_p166 C Q (24, lv, .int (x * y) :: st, h) := az_wp_iff
theorem az_s166_24 : az_p166 C Q (24, lv, st, h) ↔ az_ma (lv 0) (fun x => az_p166 C Q (25, lv, x :: st, h)) := az_wp_iff.trans az_go_lda
theorem az_s166_25 {a : Nat} : az_p166 C Q (25, lv, .ref a :: st, h) ↔ az_mf (h.1 a) 11 26 (fun v => az_p166 C Q (28, lv, v :: st, h)) := az_wp_iff.trans az_go_gf
theorem az_s166_28 : az_p166 C Q (28, lv, st, h) ↔ az_p166 C Q (29, lv, .int (Int32.ofInt (3)) :: st, h) := az_wp_iff
theorem az_s166_29 : az_p166 C Q (29, lv, st, h) ↔ az_mi (lv 1) (fun x => az_p166 C Q (30, lv, .int x :: st, h)) := az_wp_iff.trans az_go_ldi
theorem az_s166_30 {x y : Int32} : az_p166 C Q (30, lv, .int y :: .int x :: st, h) ↔ az_p166 C Q (31, lv, .int (x * y) :: st, h) := az_wp_iff
theorem az_s166_31 : az_p166 C Q (31, lv, st, h) ↔ az_mi (lv 4) (fun x => az_p166 C Q (33, lv, .int x :: st, h)) := az_wp_iff.trans az_go_ldi
theorem az_s166_33 {x y : Int32} : az_p166 C Q (33, lv, .int y :: .int x :: st, h) ↔ az_p166 C Q (34, lv, .int (x + y) :: st, h) := az_wp_iff
theorem az_s166_34 {a : Nat} {i : Int32} : az_p166 C Q (34, lv, .int i :: .ref a :: st, h) ↔ az_mr (h.1 a) 0 i.toInt (fun x => az_p166 C Q (35, lv, .int x :: st, h)) := az_wp_iff.trans az_go_ial
theorem az_s166_35 {x y : Int32} : az_p166 C Q (35, lv, .int y :: .int x :: st, h) ↔ az_p166 C Q (36, lv, .int (x + y) :: st, h) := az_wp_iff
theorem az_s166_36 {a : Nat} {i : Int32} : az_p166 C Q (36, lv, .int i :: .ref a :: st, h) ↔ az_mr (h.1 a) 0 i.toInt (fun x => az_p166 C Q (37, lv, .int x :: st, h)) := az_wp_iff.trans az_go_ial
theorem az_s166_37 : az_p166 C Q (37, lv, st, h) ↔ az_mi (lv 2) (fun x => az_p166 C Q (38, lv, .int x :: st, h)) := az_wp_iff.trans az_go_ldi
theorem az_s166_38 {x y : Int32} : az_p166 C Q (38, lv, .int y :: .int x :: st, h) ↔ (¬ x = y → az_p166 C Q (45, lv, st, h)) ∧ (¬ ¬ x = y → az_p166 C Q (41, lv, st, h)) := az_wp_iff.trans (az_go_if2 az_d_eq)
theorem az_s166_41 : az_p166 C Q (41, lv, st, h) ↔ az_p166 C Q (42, lv, .int (Int32.ofInt (1)) :: st, h) := az_wp_iff
theorem az_s166_42 : az_p166 C Q (42, lv, st, h) ↔ az_p166 C Q (46, lv, st, h) := az_wp_iff
theorem az_s166_45 : az_p166 C Q (45, lv, st, h) ↔ az_p166 C Q (46, lv, .int (Int32.ofInt (0)) :: st, h) := az_wp_iff
theorem az_s166_46 {x y : Int32} : az_p166 C Q (46, lv, .int y :: .int x :: st, h) ↔ az_p166 C Q (47, lv, .int (x + y) :: st, h) := az_wp_iff
theorem az_s166_47 {x : Int32} : az_p166 C Q (47, lv, .int x :: st, h) ↔ az_p166 C Q (48, (az_s1 lv 3 (.int x)), st, h) := az_wp_iff
theorem az_s166_48 : az_p166 C Q (48, lv, st, h) ↔ az_mi (lv 4) (fun x => az_p166 C Q (51, (az_s1 lv 4 (.int (x + Int32.ofInt (1)))), st, h)) := az_wp_iff.trans az_go_inc
theorem az_s166_51 : az_p166 C Q (51, lv, st, h) ↔ az_p166 C Q (5, lv, st, h) := az_wp_iff
theorem az_s166_54 : az_p166 C Q (54, lv, st, h) ↔ az_mi (lv 3) (fun x => az_p166 C Q (55, lv, .int x :: st, h)) := az_wp_iff.trans az_go_ldi
theorem az_s166_55 {x : Int32} : az_p166 C Q (55, lv, [.int x], h) ↔ Q (some (.int x)) h := az_wp_iff
def az_p167 (C : az_Cl) (Q : Option Value → az_H → Prop) : az_S → Prop := az_wp C (fun _ => none) (some .boolean) (az_fn az_k167) Q
theorem az_s167_0 : az_p167 C Q (0, lv, st, h) ↔ az_ma (lv 0) (fun x => az_p167 C Q (1, lv, x :: st, h)) := az_wp_iff.trans az_go_lda
theorem az_s167_1 {a : Nat} : az_p167 C Q (1, lv, .ref a :: st, h) ↔ az_mf (h.1 a) 11 14 (fun v => az_p167 C Q (4, lv, v :: st, h)) := az_wp_iff.trans az_go_gf
theorem az_s167_4 : az_p167 C Q (4, lv, st, h) ↔ az_p167 C Q (5, lv, .int (Int32.ofInt (3)) :: st, h) := az_wp_iff
theorem az_s167_5 : az_p167 C Q (5, lv, st, h) ↔ az_mi (lv 1) (fun x => az_p167 C Q (6, lv, .int x :: st, h)) := az_wp_iff.trans az_go_ldi
theorem az_s167_6 {x y : Int32} : az_p167 C Q (6, lv, .int y :: .int x :: st, h) ↔ az_p167 C Q (7, lv, .int (x * y) :: st, h) := az_wp_iff
theorem az_s167_7 : az_p167 C Q (7, lv, st, h) ↔ az_ma (lv 0) (fun x => az_p167 C Q (8, lv, x :: st, h)) := az_wp_iff.trans az_go_lda
theorem az_s167_8 {a : Nat} : az_p167 C Q (8, lv, .ref a :: st, h) ↔ az_mf (h.1 a) 11 26 (fun v => az_p167 C Q (11, lv, v :: st, h)) := az_wp_iff.trans az_go_gf
theorem az_s167_11 : az_p167 C Q (11, lv, st, h) ↔ az_p167 C Q (12, lv, .int (Int32.ofInt (3)) :: st, h) := az_wp_iff
theorem az_s167_12 : az_p167 C Q (12, lv, st, h) ↔ az_mi (lv 1) (fun x => az_p167 C Q (13, lv, .int x :: st, h)) := az_wp_iff.trans az_go_ldi
theorem az_s167_13 {x y : Int32} : az_p167 C Q (13, lv, .int y :: .int x :: st, h) ↔ az_p167 C Q (14, lv, .int (x * y) :: st, h) := az_wp_iff
theorem az_s167_14 : az_p167 C Q (14, lv, st, h) ↔ az_mi (lv 2) (fun x => az_p167 C Q (15, lv, .int x :: st, h)) := az_wp_iff.trans az_go_ldi
theorem az_s167_15 {x y : Int32} : az_p167 C Q (15, lv, .int y :: .int x :: st, h) ↔ az_p167 C Q (16, lv, .int (x + y) :: st, h) := az_wp_iff
theorem az_s167_16 {a : Nat} {i : Int32} : az_p167 C Q (16, lv, .int i :: .ref a :: st, h) ↔ az_mr (h.1 a) 0 i.toInt (fun x => az_p167 C Q (17, lv, .int x :: st, h)) := az_wp_iff.trans az_go_ial
theorem az_s167_17 {x y : Int32} : az_p167 C Q (17, lv, .int y :: .int x :: st, h) ↔ az_p167 C Q (18, lv, .int (x + y) :: st, h) := az_wp_iff
theorem az_s167_18 {a : Nat} {i : Int32} : az_p167 C Q (18, lv, .int i :: .ref a :: st, h) ↔ az_mr (h.1 a) 0 i.toInt (fun x => az_p167 C Q (19, lv, .int x :: st, h)) := az_wp_iff.trans az_go_ial
theorem az_s167_19 {x : Int32} : az_p167 C Q (19, lv, .int x :: st, h) ↔ az_p167 C Q (20, (az_s1 lv 3 (.int x)), st, h) := az_wp_iff
theorem az_s167_20 : az_p167 C Q (20, lv, st, h) ↔ az_ma (lv 0) (fun x => az_p167 C Q (21, lv, x :: st, h)) := az_wp_iff.trans az_go_lda
theorem az_s167_21 {a : Nat} : az_p167 C Q (21, lv, .ref a :: st, h) ↔ az_mf (h.1 a) 11 4 (fun v => az_p167 C Q (24, lv, v :: st, h)) := az_wp_iff.trans az_go_gf
theorem az_s167_24 : az_p167 C Q (24, lv, st, h) ↔ az_mi (lv 3) (fun x => az_p167 C Q (25, lv, .int x :: st, h)) := az_wp_iff.trans az_go_ldi
theorem az_s167_25 {a : Nat} {i : Int32} : az_p167 C Q (25, lv, .int i :: .ref a :: st, h) ↔ az_mr (h.1 a) 0 i.toInt (fun x => az_p167 C Q (26, lv, .int x :: st, h)) := az_wp_iff.trans az_go_ial
theorem az_s167_26 : az_p167 C Q (26, lv, st, h) ↔ az_ma (lv 0) (fun x => az_p167 C Q (27, lv, x :: st, h)) := az_wp_iff.trans az_go_lda
theorem az_s167_27 : az_p167 C Q (27, lv, st, h) ↔ az_mi (lv 1) (fun x => az_p167 C Q (28, lv, .int x :: st, h)) := az_wp_iff.trans az_go_ldi
theorem az_s167_28 : az_p167 C Q (28, lv, st, h) ↔ az_mi (lv 3) (fun x => az_p167 C Q (29, lv, .int x :: st, h)) := az_wp_iff.trans az_go_ldi
theorem az_s167_29 {a : Nat} {v1 v2 : Value} : az_p167 C Q (29, lv, v2 :: v1 :: .ref a :: st, h) ↔ az_isob (h.1 a) 11 = true ∧ az_cat st ≤ 8 ∧ az_mc C 166 [.ref a, v1, v2] h (fun v h' => az_p167 C Q (32, lv, v ++ st, h')) := az_wp_iff.trans (az_go_if.trans (and_congr Iff.rfl az_go_call))
theorem az_s167_32 {x y : Int32} : az_p167 C Q (32, lv, .int y :: .int x :: st, h) ↔ az_p167 C Q (33, lv, .int (x + y) :: st, h) := az_wp_iff
theorem az_s167_33 : az_p167 C Q (33, lv, st, h) ↔ az_ma (lv 0) (fun x => az_p167 C Q (34, lv, x :: st, h)) := az_wp_iff.trans az_go_lda
theorem az_s167_34 {a : Nat} : az_p167 C Q (34, lv, .ref a :: st, h) ↔ az_mf (h.1 a) 11 3 (fun v => az_p167 C Q (37, lv, v :: st, h)) := az_wp_iff.trans az_go_gf
theorem az_s167_37 : az_p167 C Q (37, lv, st, h) ↔ az_mi (lv 3) (fun x => az_p167 C Q (38, lv, .int x :: st, h)) := az_wp_iff.trans az_go_ldi
theorem az_s167_38 {a : Nat} {i : Int32} : az_p167 C Q (38, lv, .int i :: .ref a :: st, h) ↔ az_mr (h.1 a) 0 i.toInt (fun x => az_p167 C Q (39, lv, .int x :: st, h)) := az_wp_iff.trans az_go_ial
theorem az_s167_39 {x y : Int32} : az_p167 C Q (39, lv, .int y :: .int x :: st, h) ↔ (x ≤ y → az_p167 C Q (46, lv, st, h)) ∧ (¬ x ≤ y → az_p167 C Q (42, lv, st, h)) := az_wp_iff.trans (az_go_if2 az_d_eq)
theorem az_s167_42 : az_p167 C Q (42, lv, st, h) ↔ az_p167 C Q (43, lv, .int (Int32.ofInt (1)) :: st, h) := az_wp_iff
theorem az_s167_43 : az_p167 C Q (43, lv, st, h) ↔ az_p167 C Q (47, lv, st, h) := az_wp_iff
theorem az_s167_46 : az_p167 C Q (46, lv, st, h) ↔ az_p167 C Q (47, lv, .int (Int32.ofInt (0)) :: st, h) := az_wp_iff
theorem az_s167_47 {x : Int32} : az_p167 C Q (47, lv, [.int x], h) ↔ (x = 0 ∨ x = 1) ∧ Q (some (.int x)) h := az_wp_iff.trans az_go_if
def az_p168 (C : az_Cl) (Q : Option Value → az_H → Prop) : az_S → Prop := az_wp C (fun _ => none) (some .boolean) (az_fn az_k168) Q
theorem az_s168_0 : az_p168 C Q (0, lv, st, h) ↔ az_p168 C Q (1, lv, .int (Int32.ofInt (0)) :: st, h) := az_wp_iff
theorem az_s168_1 {x : Int32} : az_p168 C Q (1, lv, .int x :: st, h) ↔ az_p168 C Q (2, (az_s1 lv 2 (.int x)), st, h) := az_wp_iff
theorem az_s168_2 : az_p168 C Q (2, lv, st, h) ↔ az_mi (lv 2) (fun x => az_p168 C Q (3, lv, .int x :: st, h)) := az_wp_iff.trans az_go_ldi
theorem az_s168_3 : az_p168 C Q (3, lv, st, h) ↔ az_ma (lv 0) (fun x => az_p168 C Q (4, lv, x :: st, h)) := az_wp_iff.trans az_go_lda
theorem az_s168_4 {a : Nat} : az_p168 C Q (4, lv, .ref a :: st, h) ↔ az_mf (h.1 a) 11 23 (fun v => az_p168 C Q (7, lv, v :: st, h)) := az_wp_iff.trans az_go_gf
theorem az_s168_7 : az_p168 C Q (7, lv, st, h) ↔ az_mi (lv 1) (fun x => az_p168 C Q (8, lv, .int x :: st, h)) := az_wp_iff.trans az_go_ldi
theorem az_s168_8 {a : Nat} {i : Int32} : az_p168 C Q (8, lv, .int i :: .ref a :: st, h) ↔ az_mr (h.1 a) 0 i.toInt (fun x => az_p168 C Q (9, lv, .int x :: st, h)) := az_wp_iff.trans az_go_ial
theorem az_s168_9 {x y : Int32} : az_p168 C Q (9, lv, .int y :: .int x :: st, h) ↔ (y ≤ x → az_p168 C Q (29, lv, st, h)) ∧ (¬ y ≤ x → az_p168 C Q (12, lv, st, h)) := az_wp_iff.trans (az_go_if2 az_d_eq)
theorem az_s168_12 : az_p168 C Q (12, lv, st, h) ↔ az_ma (lv 0) (fun x => az_p168 C Q (13, lv, x :: st, h)) := az_wp_iff.trans az_go_lda
theorem az_s168_13 : az_p168 C Q (13, lv, st, h) ↔ az_mi (lv 1) (fun x => az_p168 C Q (14, lv, .int x :: st, h)) := az_wp_iff.trans az_go_ldi
theorem az_s168_14 : az_p168 C Q (14, lv, st, h) ↔ az_mi (lv 2) (fun x => az_p168 C Q (15, lv, .int x :: st, h)) := az_wp_iff.trans az_go_ldi
theorem az_s168_15 {a : Nat} {v1 v2 : Value} : az_p168 C Q (15, lv, v2 :: v1 :: .ref a :: st, h) ↔ az_isob (h.1 a) 11 = true ∧ az_cat st ≤ 8 ∧ az_mc C 167 [.ref a, v1, v2] h (fun v h' => az_p168 C Q (18, lv, v ++ st, h')) := az_wp_iff.trans (az_go_if.trans (and_congr Iff.rfl az_go_call))
theorem az_s168_18 {x : Int32} : az_p168 C Q (18, lv, .int x :: st, h) ↔ (x = 0 → az_p168 C Q (23, lv, st, h)) ∧ (¬ x = 0 → az_p168 C Q (21, lv, st, h)) := az_wp_iff.trans (az_go_if1 az_d_eq)
theorem az_s168_21 : az_p168 C Q (21, lv, st, h) ↔ az_p168 C Q (22, lv, .int (Int32.ofInt (0)) :: st, h) := az_wp_iff
theorem az_s168_22 {x : Int32} : az_p168 C Q (22, lv, [.int x], h) ↔ (x = 0 ∨ x = 1) ∧ Q (some (.int x)) h := az_wp_iff.trans az_go_if
theorem az_s168_23 : az_p168 C Q (23, lv, st, h) ↔ az_mi (lv 2) (fun x => az_p168 C Q (26, (az_s1 lv 2 (.int (x + Int32.ofInt (1)))), st, h)) := az_wp_iff.trans az_go_inc
theorem az_s168_26 : az_p168 C Q (26, lv, st, h) ↔ az_p168 C Q (2, lv, st, h) := az_wp_iff
theorem az_s168_29 : az_p168 C Q (29, lv, st, h) ↔ az_ma (lv 0) (fun x => az_p168 C Q (30, lv, x :: st, h)) := az_wp_iff.trans az_go_lda
theorem az_s168_30 {a : Nat} : az_p168 C Q (30, lv, .ref a :: st, h) ↔ az_mf (h.1 a) 11 23 (fun v => az_p168 C Q (33, lv, v :: st, h)) := az_wp_iff.trans az_go_gf
theorem az_s168_33 : az_p168 C Q (33, lv, st, h) ↔ az_mi (lv 1) (fun x => az_p168 C Q (34, lv, .int x :: st, h)) := az_wp_iff.trans az_go_ldi
theorem az_s168_34 {a : Nat} {i : Int32} : az_p168 C Q (34, lv, .int i :: .ref a :: st, h) ↔ az_mr (h.1 a) 0 i.toInt (fun x => az_p168 C Q (35, lv, .int x :: st, h)) := az_wp_iff.trans az_go_ial
theorem az_s168_35 {x : Int32} : az_p168 C Q (35, lv, .int x :: st, h) ↔ (x = 0 → az_p168 C Q (57, lv, st, h)) ∧ (¬ x = 0 → az_p168 C Q (38, lv, st, h)) := az_wp_iff.trans (az_go_if1 az_d_eq)
theorem az_s168_38 : az_p168 C Q (38, lv, st, h) ↔ az_ma (lv 0) (fun x => az_p168 C Q (39, lv, x :: st, h)) := az_wp_iff.trans az_go_lda
theorem az_s168_39 {a : Nat} : az_p168 C Q (39, lv, .ref a :: st, h) ↔ az_mf (h.1 a) 11 33 (fun v => az_p168 C Q (42, lv, v :: st, h)) := az_wp_iff.trans az_go_gf
theorem az_s168_42 : az_p168 C Q (42, lv, st, h) ↔ az_ma (lv 0) (fun x => az_p168 C Q (43, lv, x :: st, h)) := az_wp_iff.trans az_go_lda
theorem az_s168_43 {a : Nat} : az_p168 C Q (43, lv, .ref a :: st, h) ↔ az_mf (h.1 a) 11 23 (fun v => az_p168 C Q (46, lv, v :: st, h)) := az_wp_iff.trans az_go_gf
theorem az_s168_46 : az_p168 C Q (46, lv, st, h) ↔ az_mi (lv 1) (fun x => az_p168 C Q (47, lv, .int x :: st, h)) := az_wp_iff.trans az_go_ldi
theorem az_s168_47 {a : Nat} {i : Int32} : az_p168 C Q (47, lv, .int i :: .ref a :: st, h) ↔ az_mr (h.1 a) 0 i.toInt (fun x => az_p168 C Q (48, lv, .int x :: st, h)) := az_wp_iff.trans az_go_ial
theorem az_s168_48 {x y : Int32} : az_p168 C Q (48, lv, .int y :: .int x :: st, h) ↔ az_p168 C Q (49, lv, .int (x + y) :: st, h) := az_wp_iff
theorem az_s168_49 : az_p168 C Q (49, lv, st, h) ↔ az_p168 C Q (50, lv, .int (Int32.ofInt (1)) :: st, h) := az_wp_iff
theorem az_s168_50 {x y : Int32} : az_p168 C Q (50, lv, .int y :: .int x :: st, h) ↔ az_p168 C Q (51, lv, .int (x - y) :: st, h) := az_wp_iff
theorem az_s168_51 : az_p168 C Q (51, lv, st, h) ↔ az_p168 C Q (54, lv, .int (Int32.ofInt (1500)) :: st, h) := az_wp_iff
theorem az_s168_54 {x y : Int32} : az_p168 C Q (54, lv, .int y :: .int x :: st, h) ↔ (y < x → az_p168 C Q (61, lv, st, h)) ∧ (¬ y < x → az_p168 C Q (57, lv, st, h)) := az_wp_iff.trans (az_go_if2 az_d_eq)
theorem az_s168_57 : az_p168 C Q (57, lv, st, h) ↔ az_p168 C Q (58, lv, .int (Int32.ofInt (1)) :: st, h) := az_wp_iff
theorem az_s168_58 : az_p168 C Q (58, lv, st, h) ↔ az_p168 C Q (62, lv, st, h) := az_wp_iff
theorem az_s168_61 : az_p168 C Q (61, lv, st, h) ↔ az_p168 C Q (62, lv, .int (Int32.ofInt (0)) :: st, h) := az_wp_iff
theorem az_s168_62 {x : Int32} : az_p168 C Q (62, lv, [.int x], h) ↔ (x = 0 ∨ x = 1) ∧ Q (some (.int x)) h := az_wp_iff.trans az_go_if
def az_p169 (C : az_Cl) (Q : Option Value → az_H → Prop) : az_S → Prop := az_wp C (fun _ => none) none (az_fn az_k169) Q
theorem az_s169_0 : az_p169 C Q (0, lv, st, h) ↔ az_ma (lv 0) (fun x => az_p169 C Q (1, lv, x :: st, h)) := az_wp_iff.trans az_go_lda
theorem az_s169_1 {a : Nat} : az_p169 C Q (1, lv, .ref a :: st, h) ↔ az_mf (h.1 a) 11 21 (fun v => az_p169 C Q (4, lv, v :: st, h)) := az_wp_iff.trans az_go_gf
theorem az_s169_4 : az_p169 C Q (4, lv, st, h) ↔ az_mi (lv 1) (fun x => az_p169 C Q (5, lv, .int x :: st, h)) := az_wp_iff.trans az_go_ldi
theorem az_s169_5 {a : Nat} {i : Int32} : az_p169 C Q (5, lv, .int i :: .ref a :: st, h) ↔ az_mr (h.1 a) 0 i.toInt (fun x => az_p169 C Q (6, lv, .int x :: st, h)) := az_wp_iff.trans az_go_ial
theorem az_s169_6 {x : Int32} : az_p169 C Q (6, lv, .int x :: st, h) ↔ az_p169 C Q (7, (az_s1 lv 2 (.int x)), st, h) := az_wp_iff
theorem az_s169_7 : az_p169 C Q (7, lv, st, h) ↔ az_p169 C Q (8, lv, .int (Int32.ofInt (0)) :: st, h) := az_wp_iff
theorem az_s169_8 {x : Int32} : az_p169 C Q (8, lv, .int x :: st, h) ↔ az_p169 C Q (9, (az_s1 lv 3 (.int x)), st, h) := az_wp_iff
theorem az_s169_9 : az_p169 C Q (9, lv, st, h) ↔ az_mi (lv 3) (fun x => az_p169 C Q (10, lv, .int x :: st, h)) := az_wp_iff.trans az_go_ldi
theorem az_s169_10 : az_p169 C Q (10, lv, st, h) ↔ az_ma (lv 0) (fun x => az_p169 C Q (11, lv, x :: st, h)) := az_wp_iff.trans az_go_lda
theorem az_s169_11 {a : Nat} : az_p169 C Q (11, lv, .ref a :: st, h) ↔ az_mf (h.1 a) 11 23 (fun v => az_p169 C Q (14, lv, v :: st, h)) := az_wp_iff.trans az_go_gf
theorem az_s169_14 : az_p169 C Q (14, lv, st, h) ↔ az_mi (lv 1) (fun x => az_p169 C Q (15, lv, .int x :: st, h)) := az_wp_iff.trans az_go_ldi
theorem az_s169_15 {a : Nat} {i : Int32} : az_p169 C Q (15, lv, .int i :: .ref a :: st, h) ↔ az_mr (h.1 a) 0 i.toInt (fun x => az_p169 C Q (16, lv, .int x :: st, h)) := az_wp_iff.trans az_go_ial
theorem az_s169_16 {x y : Int32} : az_p169 C Q (16, lv, .int y :: .int x :: st, h) ↔ (y ≤ x → az_p169 C Q (156, lv, st, h)) ∧ (¬ y ≤ x → az_p169 C Q (19, lv, st, h)) := az_wp_iff.trans (az_go_if2 az_d_eq)
theorem az_s169_19 : az_p169 C Q (19, lv, st, h) ↔ az_p169 C Q (20, lv, .int (Int32.ofInt (3)) :: st, h) := az_wp_iff
theorem az_s169_20 : az_p169 C Q (20, lv, st, h) ↔ az_mi (lv 1) (fun x => az_p169 C Q (21, lv, .int x :: st, h)) := az_wp_iff.trans az_go_ldi
theorem az_s169_21 {x y : Int32} : az_p169 C Q (21, lv, .int y :: .int x :: st, h) ↔ az_p169 C Q (22, lv, .int (x * y) :: st, h) := az_wp_iff
theorem az_s169_22 : az_p169 C Q (22, lv, st, h) ↔ az_mi (lv 3) (fun x => az_p169 C Q (23, lv, .int x :: st, h)) := az_wp_iff.trans az_go_ldi
theorem az_s169_23 {x y : Int32} : az_p169 C Q (23, lv, .int y :: .int x :: st, h) ↔ az_p169 C Q (24, lv, .int (x + y) :: st, h) := az_wp_iff
theorem az_s169_24 {x : Int32} : az_p169 C Q (24, lv, .int x :: st, h) ↔ az_p169 C Q (26, (az_s1 lv 4 (.int x)), st, h) := az_wp_iff
theorem az_s169_26 : az_p169 C Q (26, lv, st, h) ↔ az_mi (lv 2) (fun x => az_p169 C Q (27, lv, .int x :: st, h)) := az_wp_iff.trans az_go_ldi
theorem az_s169_27 {x : Int32} : az_p169 C Q (27, lv, .int x :: st, h) ↔ az_p169 C Q (29, (az_s1 lv 5 (.int x)), st, h) := az_wp_iff
theorem az_s169_29 : az_p169 C Q (29, lv, st, h) ↔ az_mi (lv 3) (fun x => az_p169 C Q (30, lv, .int x :: st, h)) := az_wp_iff.trans az_go_ldi
theorem az_s169_30 {x : Int32} : az_p169 C Q (30, lv, .int x :: st, h) ↔ (x ≤ 0 → az_p169 C Q (100, lv, st, h)) ∧ (¬ x ≤ 0 → az_p169 C Q (33, lv, st, h)) := az_wp_iff.trans (az_go_if1 az_d_eq)
theorem az_s169_33 : az_p169 C Q (33, lv, st, h) ↔ az_ma (lv 0) (fun x => az_p169 C Q (34, lv, x :: st, h)) := az_wp_iff.trans az_go_lda
theorem az_s169_34 {a : Nat} : az_p169 C Q (34, lv, .ref a :: st, h) ↔ az_mf (h.1 a) 11 33 (fun v => az_p169 C Q (37, lv, v :: st, h)) := az_wp_iff.trans az_go_gf
theorem az_s169_37 {x : Int32} : az_p169 C Q (37, lv, .int x :: st, h) ↔ az_p169 C Q (39, (az_s1 lv 5 (.int x)), st, h) := az_wp_iff
theorem az_s169_39 : az_p169 C Q (39, lv, st, h) ↔ az_ma (lv 0) (fun x => az_p169 C Q (40, lv, x :: st, h)) := az_wp_iff.trans az_go_lda
theorem az_s169_40 {x : Int32} : az_p169 C Q (40, lv, .int x :: st, h) ↔ az_p169 C Q (41, lv, .int x :: .int x :: st, h) := az_wp_iff
theorem az_s169_40r {x : Nat} : az_p169 C Q (40, lv, .ref x :: st, h) ↔ az_p169 C Q (41, lv, .ref x :: .ref x :: st, h) := az_wp_iff
theorem az_s169_41 {a : Nat} : az_p169 C Q (41, lv, .ref a :: st, h) ↔ az_mf (h.1 a) 11 33 (fun v => az_p169 C Q (44, lv, v :: st, h)) := az_wp_iff.trans az_go_gf
theorem az_s169_44 : az_p169 C Q (44, lv, st, h) ↔ az_p169 C Q (45, lv, .int (Int32.ofInt (1)) :: st, h) := az_wp_iff
theorem az_s169_45 {x y : Int32} : az_p169 C Q (45, lv, .int y :: .int x :: st, h) ↔ az_p169 C Q (46, lv, .int (x + y) :: st, h) := az_wp_iff
theorem az_s169_46 {a : Nat} {v : Value} : az_p169 C Q (46, lv, v :: .ref a :: st, h) ↔ az_mp (h.1 a) 11 33 0 v (fun c => az_p169 C Q (49, lv, st, az_uh h a c)) := az_wp_iff.trans az_go_pf
theorem az_s169_49 : az_p169 C Q (49, lv, st, h) ↔ az_ma (lv 0) (fun x => az_p169 C Q (50, lv, x :: st, h)) := az_wp_iff.trans az_go_lda
theorem az_s169_50 {a : Nat} : az_p169 C Q (50, lv, .ref a :: st, h) ↔ az_mf (h.1 a) 11 36 (fun v => az_p169 C Q (53, lv, v :: st, h)) := az_wp_iff.trans az_go_gf
theorem az_s169_53 : az_p169 C Q (53, lv, st, h) ↔ az_mi (lv 5) (fun x => az_p169 C Q (55, lv, .int x :: st, h)) := az_wp_iff.trans az_go_ldi
theorem az_s169_55 : az_p169 C Q (55, lv, st, h) ↔ az_ma (lv 0) (fun x => az_p169 C Q (56, lv, x :: st, h)) := az_wp_iff.trans az_go_lda
theorem az_s169_56 {a : Nat} : az_p169 C Q (56, lv, .ref a :: st, h) ↔ az_mf (h.1 a) 11 36 (fun v => az_p169 C Q (59, lv, v :: st, h)) := az_wp_iff.trans az_go_gf
theorem az_s169_59 : az_p169 C Q (59, lv, st, h) ↔ az_mi (lv 2) (fun x => az_p169 C Q (60, lv, .int x :: st, h)) := az_wp_iff.trans az_go_ldi
theorem az_s169_60 {a : Nat} {i : Int32} : az_p169 C Q (60, lv, .int i :: .ref a :: st, h) ↔ az_mr (h.1 a) 0 i.toInt (fun x => az_p169 C Q (61, lv, .int x :: st, h)) := az_wp_iff.trans az_go_ial
theorem az_s169_61 {a : Nat} {i x : Int32} : az_p169 C Q (61, lv, .int x :: .int i :: .ref a :: st, h) ↔ az_mw' (h.1 a) i.toInt x (fun c => az_p169 C Q (62, lv, st, az_uh h a c)) := az_wp_iff.trans az_go_ias
theorem az_s169_62 : az_p169 C Q (62, lv, st, h) ↔ az_p169 C Q (63, lv, .int (Int32.ofInt (0)) :: st, h) := az_wp_iff
theorem az_s169_63 {x : Int32} : az_p169 C Q (63, lv, .int x :: st, h) ↔ az_p169 C Q (65, (az_s1 lv 6 (.int x)), st, h) := az_wp_iff
theorem az_s169_65 : az_p169 C Q (65, lv, st, h) ↔ az_mi (lv 6) (fun x => az_p169 C Q (67, lv, .int x :: st, h)) := az_wp_iff.trans az_go_ldi
theorem az_s169_67 : az_p169 C Q (67, lv, st, h) ↔ az_p169 C Q (68, lv, .int (Int32.ofInt (4)) :: st, h) := az_wp_iff
theorem az_s169_68 {x y : Int32} : az_p169 C Q (68, lv, .int y :: .int x :: st, h) ↔ (y ≤ x → az_p169 C Q (100, lv, st, h)) ∧ (¬ y ≤ x → az_p169 C Q (71, lv, st, h)) := az_wp_iff.trans (az_go_if2 az_d_eq)
theorem az_s169_71 : az_p169 C Q (71, lv, st, h) ↔ az_ma (lv 0) (fun x => az_p169 C Q (72, lv, x :: st, h)) := az_wp_iff.trans az_go_lda
theorem az_s169_72 {a : Nat} : az_p169 C Q (72, lv, .ref a :: st, h) ↔ az_mf (h.1 a) 11 37 (fun v => az_p169 C Q (75, lv, v :: st, h)) := az_wp_iff.trans az_go_gf
theorem az_s169_75 : az_p169 C Q (75, lv, st, h) ↔ az_p169 C Q (76, lv, .int (Int32.ofInt (4)) :: st, h) := az_wp_iff
theorem az_s169_76 : az_p169 C Q (76, lv, st, h) ↔ az_mi (lv 5) (fun x => az_p169 C Q (78, lv, .int x :: st, h)) := az_wp_iff.trans az_go_ldi
theorem az_s169_78 {x y : Int32} : az_p169 C Q (78, lv, .int y :: .int x :: st, h) ↔ az_p169 C Q (79, lv, .int (x * y) :: st, h) := az_wp_iff
theorem az_s169_79 : az_p169 C Q (79, lv, st, h) ↔ az_mi (lv 6) (fun x => az_p169 C Q (81, lv, .int x :: st, h)) := az_wp_iff.trans az_go_ldi
theorem az_s169_81 {x y : Int32} : az_p169 C Q (81, lv, .int y :: .int x :: st, h) ↔ az_p169 C Q (82, lv, .int (x + y) :: st, h) := az_wp_iff
theorem az_s169_82 : az_p169 C Q (82, lv, st, h) ↔ az_ma (lv 0) (fun x => az_p169 C Q (83, lv, x :: st, h)) := az_wp_iff.trans az_go_lda
theorem az_s169_83 {a : Nat} : az_p169 C Q (83, lv, .ref a :: st, h) ↔ az_mf (h.1 a) 11 37 (fun v => az_p169 C Q (86, lv, v :: st, h)) := az_wp_iff.trans az_go_gf
theorem az_s169_86 : az_p169 C Q (86, lv, st, h) ↔ az_p169 C Q (87, lv, .int (Int32.ofInt (4)) :: st, h) := az_wp_iff
theorem az_s169_87 : az_p169 C Q (87, lv, st, h) ↔ az_mi (lv 2) (fun x => az_p169 C Q (88, lv, .int x :: st, h)) := az_wp_iff.trans az_go_ldi
theorem az_s169_88 {x y : Int32} : az_p169 C Q (88, lv, .int y :: .int x :: st, h) ↔ az_p169 C Q (89, lv, .int (x * y) :: st, h) := az_wp_iff
theorem az_s169_89 : az_p169 C Q (89, lv, st, h) ↔ az_mi (lv 6) (fun x => az_p169 C Q (91, lv, .int x :: st, h)) := az_wp_iff.trans az_go_ldi
theorem az_s169_91 {x y : Int32} : az_p169 C Q (91, lv, .int y :: .int x :: st, h) ↔ az_p169 C Q (92, lv, .int (x + y) :: st, h) := az_wp_iff
theorem az_s169_92 {a : Nat} {i : Int32} : az_p169 C Q (92, lv, .int i :: .ref a :: st, h) ↔ az_mr (h.1 a) 0 i.toInt (fun x => az_p169 C Q (93, lv, .int x :: st, h)) := az_wp_iff.trans az_go_ial
theorem az_s169_93 {a : Nat} {i x : Int32} : az_p169 C Q (93, lv, .int x :: .int i :: .ref a :: st, h) ↔ az_mw' (h.1 a) i.toInt x (fun c => az_p169 C Q (94, lv, st, az_uh h a c)) := az_wp_iff.trans az_go_ias
theorem az_s169_94 : az_p169 C Q (94, lv, st, h) ↔ az_mi (lv 6) (fun x => az_p169 C Q (97, (az_s1 lv 6 (.int (x + Int32.ofInt (1)))), st, h)) := az_wp_iff.trans az_go_inc
theorem az_s169_97 : az_p169 C Q (97, lv, st, h) ↔ az_p169 C Q (65, lv, st, h) := az_wp_iff
theorem az_s169_100 : az_p169 C Q (100, lv, st, h) ↔ az_ma (lv 0) (fun x => az_p169 C Q (101, lv, x :: st, h)) := az_wp_iff.trans az_go_lda
theorem az_s169_101 {a : Nat} : az_p169 C Q (101, lv, .ref a :: st, h) ↔ az_mf (h.1 a) 11 34 (fun v => az_p169 C Q (104, lv, v :: st, h)) := az_wp_iff.trans az_go_gf
theorem az_s169_104 : az_p169 C Q (104, lv, st, h) ↔ az_mi (lv 5) (fun x => az_p169 C Q (106, lv, .int x :: st, h)) := az_wp_iff.trans az_go_ldi
theorem az_s169_106 : az_p169 C Q (106, lv, st, h) ↔ az_ma (lv 0) (fun x => az_p169 C Q (107, lv, x :: st, h)) := az_wp_iff.trans az_go_lda
theorem az_s169_107 {a : Nat} : az_p169 C Q (107, lv, .ref a :: st, h) ↔ az_mf (h.1 a) 11 24 (fun v => az_p169 C Q (110, lv, v :: st, h)) := az_wp_iff.trans az_go_gf
theorem az_s169_110 : az_p169 C Q (110, lv, st, h) ↔ az_mi (lv 4) (fun x => az_p169 C Q (112, lv, .int x :: st, h)) := az_wp_iff.trans az_go_ldi
theorem az_s169_112 {a : Nat} {i : Int32} : az_p169 C Q (112, lv, .int i :: .ref a :: st, h) ↔ az_mrl (h.1 a) i.toInt (fun x => az_p169 C Q (113, lv, .long x :: st, h)) := az_wp_iff.trans az_go_lal
theorem az_s169_113 {a : Nat} {i : Int32} {x : Int64} : az_p169 C Q (113, lv, .long x :: .int i :: .ref a :: st, h) ↔ az_mwl (h.1 a) i.toInt x (fun c => az_p169 C Q (114, lv, st, az_uh h a c)) := az_wp_iff.trans az_go_las
theorem az_s169_114 : az_p169 C Q (114, lv, st, h) ↔ az_ma (lv 0) (fun x => az_p169 C Q (115, lv, x :: st, h)) := az_wp_iff.trans az_go_lda
theorem az_s169_115 {a : Nat} : az_p169 C Q (115, lv, .ref a :: st, h) ↔ az_mf (h.1 a) 11 35 (fun v => az_p169 C Q (118, lv, v :: st, h)) := az_wp_iff.trans az_go_gf
theorem az_s169_118 : az_p169 C Q (118, lv, st, h) ↔ az_mi (lv 5) (fun x => az_p169 C Q (120, lv, .int x :: st, h)) := az_wp_iff.trans az_go_ldi
theorem az_s169_120 : az_p169 C Q (120, lv, st, h) ↔ az_ma (lv 0) (fun x => az_p169 C Q (121, lv, x :: st, h)) := az_wp_iff.trans az_go_lda
theorem az_s169_121 {a : Nat} : az_p169 C Q (121, lv, .ref a :: st, h) ↔ az_mf (h.1 a) 11 25 (fun v => az_p169 C Q (124, lv, v :: st, h)) := az_wp_iff.trans az_go_gf
theorem az_s169_124 : az_p169 C Q (124, lv, st, h) ↔ az_mi (lv 4) (fun x => az_p169 C Q (126, lv, .int x :: st, h)) := az_wp_iff.trans az_go_ldi
theorem az_s169_126 {a : Nat} {i : Int32} : az_p169 C Q (126, lv, .int i :: .ref a :: st, h) ↔ az_mr (h.1 a) 0 i.toInt (fun x => az_p169 C Q (127, lv, .int x :: st, h)) := az_wp_iff.trans az_go_ial
theorem az_s169_127 {a : Nat} {i x : Int32} : az_p169 C Q (127, lv, .int x :: .int i :: .ref a :: st, h) ↔ az_mw' (h.1 a) i.toInt x (fun c => az_p169 C Q (128, lv, st, az_uh h a c)) := az_wp_iff.trans az_go_ias
theorem az_s169_128 : az_p169 C Q (128, lv, st, h) ↔ az_ma (lv 0) (fun x => az_p169 C Q (129, lv, x :: st, h)) := az_wp_iff.trans az_go_lda
theorem az_s169_129 : az_p169 C Q (129, lv, st, h) ↔ az_ma (lv 0) (fun x => az_p169 C Q (130, lv, x :: st, h)) := az_wp_iff.trans az_go_lda
theorem az_s169_130 {a : Nat} : az_p169 C Q (130, lv, .ref a :: st, h) ↔ az_mf (h.1 a) 11 14 (fun v => az_p169 C Q (133, lv, v :: st, h)) := az_wp_iff.trans az_go_gf
theorem az_s169_133 : az_p169 C Q (133, lv, st, h) ↔ az_p169 C Q (134, lv, .int (Int32.ofInt (3)) :: st, h) := az_wp_iff
theorem az_s169_134 : az_p169 C Q (134, lv, st, h) ↔ az_mi (lv 1) (fun x => az_p169 C Q (135, lv, .int x :: st, h)) := az_wp_iff.trans az_go_ldi
theorem az_s169_135 {x y : Int32} : az_p169 C Q (135, lv, .int y :: .int x :: st, h) ↔ az_p169 C Q (136, lv, .int (x * y) :: st, h) := az_wp_iff
theorem az_s169_136 : az_p169 C Q (136, lv, st, h) ↔ az_ma (lv 0) (fun x => az_p169 C Q (137, lv, x :: st, h)) := az_wp_iff.trans az_go_lda
theorem az_s169_137 {a : Nat} : az_p169 C Q (137, lv, .ref a :: st, h) ↔ az_mf (h.1 a) 11 26 (fun v => az_p169 C Q (140, lv, v :: st, h)) := az_wp_iff.trans az_go_gf
theorem az_s169_140 : az_p169 C Q (140, lv, st, h) ↔ az_mi (lv 4) (fun x => az_p169 C Q (142, lv, .int x :: st, h)) := az_wp_iff.trans az_go_ldi
theorem az_s169_142 {a : Nat} {i : Int32} : az_p169 C Q (142, lv, .int i :: .ref a :: st, h) ↔ az_mr (h.1 a) 0 i.toInt (fun x => az_p169 C Q (143, lv, .int x :: st, h)) := az_wp_iff.trans az_go_ial
theorem az_s169_143 {x y : Int32} : az_p169 C Q (143, lv, .int y :: .int x :: st, h) ↔ az_p169 C Q (144, lv, .int (x + y) :: st, h) := az_wp_iff
theorem az_s169_144 {a : Nat} {i : Int32} : az_p169 C Q (144, lv, .int i :: .ref a :: st, h) ↔ az_mr (h.1 a) 0 i.toInt (fun x => az_p169 C Q (145, lv, .int x :: st, h)) := az_wp_iff.trans az_go_ial
theorem az_s169_145 : az_p169 C Q (145, lv, st, h) ↔ az_mi (lv 5) (fun x => az_p169 C Q (147, lv, .int x :: st, h)) := az_wp_iff.trans az_go_ldi
theorem az_s169_147 {a : Nat} {v1 v2 : Value} : az_p169 C Q (147, lv, v2 :: v1 :: .ref a :: st, h) ↔ az_isob (h.1 a) 11 = true ∧ az_cat st ≤ 8 ∧ az_mc C 148 [.ref a, v1, v2] h (fun v h' => az_p169 C Q (150, lv, v ++ st, h')) := az_wp_iff.trans (az_go_if.trans (and_congr Iff.rfl az_go_call))
theorem az_s169_150 : az_p169 C Q (150, lv, st, h) ↔ az_mi (lv 3) (fun x => az_p169 C Q (153, (az_s1 lv 3 (.int (x + Int32.ofInt (1)))), st, h)) := az_wp_iff.trans az_go_inc
theorem az_s169_153 : az_p169 C Q (153, lv, st, h) ↔ az_p169 C Q (9, lv, st, h) := az_wp_iff
theorem az_s169_156 : az_p169 C Q (156, lv, st, h) ↔ az_ma (lv 0) (fun x => az_p169 C Q (157, lv, x :: st, h)) := az_wp_iff.trans az_go_lda
theorem az_s169_157 {a : Nat} : az_p169 C Q (157, lv, .ref a :: st, h) ↔ az_mf (h.1 a) 11 23 (fun v => az_p169 C Q (160, lv, v :: st, h)) := az_wp_iff.trans az_go_gf
theorem az_s169_160 : az_p169 C Q (160, lv, st, h) ↔ az_mi (lv 1) (fun x => az_p169 C Q (161, lv, .int x :: st, h)) := az_wp_iff.trans az_go_ldi
theorem az_s169_161 : az_p169 C Q (161, lv, st, h) ↔ az_p169 C Q (162, lv, .int (Int32.ofInt (0)) :: st, h) := az_wp_iff
theorem az_s169_162 {a : Nat} {i x : Int32} : az_p169 C Q (162, lv, .int x :: .int i :: .ref a :: st, h) ↔ az_mw' (h.1 a) i.toInt x (fun c => az_p169 C Q (163, lv, st, az_uh h a c)) := az_wp_iff.trans az_go_ias
theorem az_s169_163 : az_p169 C Q (163, lv, st, h) ↔ az_ma (lv 0) (fun x => az_p169 C Q (164, lv, x :: st, h)) := az_wp_iff.trans az_go_lda
theorem az_s169_164 {a : Nat} : az_p169 C Q (164, lv, .ref a :: st, h) ↔ az_mf (h.1 a) 11 21 (fun v => az_p169 C Q (167, lv, v :: st, h)) := az_wp_iff.trans az_go_gf
theorem az_s169_167 : az_p169 C Q (167, lv, st, h) ↔ az_mi (lv 1) (fun x => az_p169 C Q (168, lv, .int x :: st, h)) := az_wp_iff.trans az_go_ldi
theorem az_s169_168 : az_p169 C Q (168, lv, st, h) ↔ az_p169 C Q (169, lv, .int (Int32.ofInt (-1)) :: st, h) := az_wp_iff
theorem az_s169_169 {a : Nat} {i x : Int32} : az_p169 C Q (169, lv, .int x :: .int i :: .ref a :: st, h) ↔ az_mw' (h.1 a) i.toInt x (fun c => az_p169 C Q (170, lv, st, az_uh h a c)) := az_wp_iff.trans az_go_ias
theorem az_s169_170 : az_p169 C Q (170, lv, st, h) ↔ az_ma (lv 0) (fun x => az_p169 C Q (171, lv, x :: st, h)) := az_wp_iff.trans az_go_lda
theorem az_s169_171 {a : Nat} : az_p169 C Q (171, lv, .ref a :: st, h) ↔ az_mf (h.1 a) 11 20 (fun v => az_p169 C Q (174, lv, v :: st, h)) := az_wp_iff.trans az_go_gf
theorem az_s169_174 : az_p169 C Q (174, lv, st, h) ↔ az_mi (lv 1) (fun x => az_p169 C Q (175, lv, .int x :: st, h)) := az_wp_iff.trans az_go_ldi
theorem az_s169_175 : az_p169 C Q (175, lv, st, h) ↔ az_p169 C Q (176, lv, .int (Int32.ofInt (0)) :: st, h) := az_wp_iff
theorem az_s169_176 {a : Nat} {i x : Int32} : az_p169 C Q (176, lv, .int x :: .int i :: .ref a :: st, h) ↔ az_mz (h.1 a) i.toInt x (fun c => az_p169 C Q (177, lv, st, az_uh h a c)) := az_wp_iff.trans az_go_zas
theorem az_s169_177 : az_p169 C Q (177, lv, st, h) ↔ az_ma (lv 0) (fun x => az_p169 C Q (178, lv, x :: st, h)) := az_wp_iff.trans az_go_lda
theorem az_s169_178 {a : Nat} : az_p169 C Q (178, lv, .ref a :: st, h) ↔ az_mf (h.1 a) 11 18 (fun v => az_p169 C Q (181, lv, v :: st, h)) := az_wp_iff.trans az_go_gf
theorem az_s169_181 : az_p169 C Q (181, lv, st, h) ↔ az_mi (lv 1) (fun x => az_p169 C Q (182, lv, .int x :: st, h)) := az_wp_iff.trans az_go_ldi
theorem az_s169_182 : az_p169 C Q (182, lv, st, h) ↔ az_p169 C Q (183, lv, .int (Int32.ofInt (0)) :: st, h) := az_wp_iff
theorem az_s169_183 {a : Nat} {i x : Int32} : az_p169 C Q (183, lv, .int x :: .int i :: .ref a :: st, h) ↔ az_mw' (h.1 a) i.toInt x (fun c => az_p169 C Q (184, lv, st, az_uh h a c)) := az_wp_iff.trans az_go_ias
theorem az_s169_184 : az_p169 C Q (184, lv, [], h) ↔ Q none h := az_wp_iff
def az_p170 (C : az_Cl) (Q : Option Value → az_H → Prop) : az_S → Prop := az_wp C (fun _ => none) (some .boolean) (az_fn az_k170) Q
theorem az_s170_0 : az_p170 C Q (0, lv, st, h) ↔ az_p170 C Q (1, lv, .int (Int32.ofInt (0)) :: st, h) := az_wp_iff
theorem az_s170_1 {x : Int32} : az_p170 C Q (1, lv, .int x :: st, h) ↔ az_p170 C Q (2, (az_s1 lv 2 (.int x)), st, h) := az_wp_iff
theorem az_s170_2 : az_p170 C Q (2, lv, st, h) ↔ az_mi (lv 2) (fun x => az_p170 C Q (3, lv, .int x :: st, h)) := az_wp_iff.trans az_go_ldi
theorem az_s170_3 : az_p170 C Q (3, lv, st, h) ↔ az_ma (lv 0) (fun x => az_p170 C Q (4, lv, x :: st, h)) := az_wp_iff.trans az_go_lda
theorem az_s170_4 {a : Nat} : az_p170 C Q (4, lv, .ref a :: st, h) ↔ az_mf (h.1 a) 11 11 (fun v => az_p170 C Q (7, lv, v :: st, h)) := az_wp_iff.trans az_go_gf
theorem az_s170_7 : az_p170 C Q (7, lv, st, h) ↔ az_mi (lv 1) (fun x => az_p170 C Q (8, lv, .int x :: st, h)) := az_wp_iff.trans az_go_ldi
theorem az_s170_8 {a : Nat} {i : Int32} : az_p170 C Q (8, lv, .int i :: .ref a :: st, h) ↔ az_mr (h.1 a) 0 i.toInt (fun x => az_p170 C Q (9, lv, .int x :: st, h)) := az_wp_iff.trans az_go_ial
theorem az_s170_9 {x y : Int32} : az_p170 C Q (9, lv, .int y :: .int x :: st, h) ↔ (y ≤ x → az_p170 C Q (38, lv, st, h)) ∧ (¬ y ≤ x → az_p170 C Q (12, lv, st, h)) := az_wp_iff.trans (az_go_if2 az_d_eq)
theorem az_s170_12 : az_p170 C Q (12, lv, st, h) ↔ az_ma (lv 0) (fun x => az_p170 C Q (13, lv, x :: st, h)) := az_wp_iff.trans az_go_lda
theorem az_s170_13 {a : Nat} : az_p170 C Q (13, lv, .ref a :: st, h) ↔ az_mf (h.1 a) 11 4 (fun v => az_p170 C Q (16, lv, v :: st, h)) := az_wp_iff.trans az_go_gf
theorem az_s170_16 : az_p170 C Q (16, lv, st, h) ↔ az_ma (lv 0) (fun x => az_p170 C Q (17, lv, x :: st, h)) := az_wp_iff.trans az_go_lda
theorem az_s170_17 {a : Nat} : az_p170 C Q (17, lv, .ref a :: st, h) ↔ az_mf (h.1 a) 11 12 (fun v => az_p170 C Q (20, lv, v :: st, h)) := az_wp_iff.trans az_go_gf
theorem az_s170_20 : az_p170 C Q (20, lv, st, h) ↔ az_p170 C Q (21, lv, .int (Int32.ofInt (2)) :: st, h) := az_wp_iff
theorem az_s170_21 : az_p170 C Q (21, lv, st, h) ↔ az_mi (lv 1) (fun x => az_p170 C Q (22, lv, .int x :: st, h)) := az_wp_iff.trans az_go_ldi
theorem az_s170_22 {x y : Int32} : az_p170 C Q (22, lv, .int y :: .int x :: st, h) ↔ az_p170 C Q (23, lv, .int (x * y) :: st, h) := az_wp_iff
theorem az_s170_23 : az_p170 C Q (23, lv, st, h) ↔ az_mi (lv 2) (fun x => az_p170 C Q (24, lv, .int x :: st, h)) := az_wp_iff.trans az_go_ldi
theorem az_s170_24 {x y : Int32} : az_p170 C Q (24, lv, .int y :: .int x :: st, h) ↔ az_p170 C Q (25, lv, .int (x + y) :: st, h) := az_wp_iff
theorem az_s170_25 {a : Nat} {i : Int32} : az_p170 C Q (25, lv, .int i :: .ref a :: st, h) ↔ az_mr (h.1 a) 0 i.toInt (fun x => az_p170 C Q (26, lv, .int x :: st, h)) := az_wp_iff.trans az_go_ial
theorem az_s170_26 {a : Nat} {i : Int32} : az_p170 C Q (26, lv, .int i :: .ref a :: st, h) ↔ az_mr (h.1 a) 0 i.toInt (fun x => az_p170 C Q (27, lv, .int x :: st, h)) := az_wp_iff.trans az_go_ial
theorem az_s170_27 {x : Int32} : az_p170 C Q (27, lv, .int x :: st, h) ↔ (¬ x = 0 → az_p170 C Q (32, lv, st, h)) ∧ (¬ ¬ x = 0 → az_p170 C Q (30, lv, st, h)) := az_wp_iff.trans (az_go_if1 az_d_eq)
theorem az_s170_30 : az_p170 C Q (30, lv, st, h) ↔ az_p170 C Q (31, lv, .int (Int32.ofInt (0)) :: st, h) := az_wp_iff
theorem az_s170_31 {x : Int32} : az_p170 C Q (31, lv, [.int x], h) ↔ (x = 0 ∨ x = 1) ∧ Q (some (.int x)) h := az_wp_iff.trans az_go_if
theorem az_s170_32 : az_p170 C Q (32, lv, st, h) ↔ az_mi (lv 2) (fun x => az_p170 C Q (35, (az_s1 lv 2 (.int (x + Int32.ofInt (1)))), st, h)) := az_wp_iff.trans az_go_inc
theorem az_s170_35 : az_p170 C Q (35, lv, st, h) ↔ az_p170 C Q (2, lv, st, h) := az_wp_iff
theorem az_s170_38 : az_p170 C Q (38, lv, st, h) ↔ az_p170 C Q (39, lv, .int (Int32.ofInt (1)) :: st, h) := az_wp_iff
theorem az_s170_39 {x : Int32} : az_p170 C Q (39, lv, [.int x], h) ↔ (x = 0 ∨ x = 1) ∧ Q (some (.int x)) h := az_wp_iff.trans az_go_if
def az_p171 (C : az_Cl) (Q : Option Value → az_H → Prop) : az_S → Prop := az_wp C (fun _ => none) none (az_fn az_k171) Q
theorem az_s171_0 : az_p171 C Q (0, lv, st, h) ↔ az_ma (lv 0) (fun x => az_p171 C Q (1, lv, x :: st, h)) := az_wp_iff.trans az_go_lda
theorem az_s171_1 {a : Nat} : az_p171 C Q (1, lv, .ref a :: st, h) ↔ az_mf (h.1 a) 11 18 (fun v => az_p171 C Q (4, lv, v :: st, h)) := az_wp_iff.trans az_go_gf
theorem az_s171_4 : az_p171 C Q (4, lv, st, h) ↔ az_mi (lv 1) (fun x => az_p171 C Q (5, lv, .int x :: st, h)) := az_wp_iff.trans az_go_ldi
theorem az_s171_5 {a : Nat} {i : Int32} : az_p171 C Q (5, lv, .int i :: .ref a :: st, h) ↔ az_mr (h.1 a) 0 i.toInt (fun x => az_p171 C Q (6, lv, .int x :: st, h)) := az_wp_iff.trans az_go_ial
theorem az_s171_6 : az_p171 C Q (6, lv, st, h) ↔ az_p171 C Q (7, lv, .int (Int32.ofInt (1)) :: st, h) := az_wp_iff
theorem az_s171_7 {x y : Int32} : az_p171 C Q (7, lv, .int y :: .int x :: st, h) ↔ (x = y → az_p171 C Q (21, lv, st, h)) ∧ (¬ x = y → az_p171 C Q (10, lv, st, h)) := az_wp_iff.trans (az_go_if2 az_d_eq)
theorem az_s171_10 : az_p171 C Q (10, lv, st, h) ↔ az_ma (lv 0) (fun x => az_p171 C Q (11, lv, x :: st, h)) := az_wp_iff.trans az_go_lda
theorem az_s171_11 {a : Nat} : az_p171 C Q (11, lv, .ref a :: st, h) ↔ az_mf (h.1 a) 11 18 (fun v => az_p171 C Q (14, lv, v :: st, h)) := az_wp_iff.trans az_go_gf
theorem az_s171_14 : az_p171 C Q (14, lv, st, h) ↔ az_mi (lv 1) (fun x => az_p171 C Q (15, lv, .int x :: st, h)) := az_wp_iff.trans az_go_ldi
theorem az_s171_15 {a : Nat} {i : Int32} : az_p171 C Q (15, lv, .int i :: .ref a :: st, h) ↔ az_mr (h.1 a) 0 i.toInt (fun x => az_p171 C Q (16, lv, .int x :: st, h)) := az_wp_iff.trans az_go_ial
theorem az_s171_16 : az_p171 C Q (16, lv, st, h) ↔ az_p171 C Q (17, lv, .int (Int32.ofInt (3)) :: st, h) := az_wp_iff
theorem az_s171_17 {x y : Int32} : az_p171 C Q (17, lv, .int y :: .int x :: st, h) ↔ (x = y → az_p171 C Q (21, lv, st, h)) ∧ (¬ x = y → az_p171 C Q (20, lv, st, h)) := az_wp_iff.trans (az_go_if2 az_d_eq)
theorem az_s171_20 : az_p171 C Q (20, lv, [], h) ↔ Q none h := az_wp_iff
theorem az_s171_21 : az_p171 C Q (21, lv, st, h) ↔ az_ma (lv 0) (fun x => az_p171 C Q (22, lv, x :: st, h)) := az_wp_iff.trans az_go_lda
theorem az_s171_22 {a : Nat} : az_p171 C Q (22, lv, .ref a :: st, h) ↔ az_mf (h.1 a) 11 19 (fun v => az_p171 C Q (25, lv, v :: st, h)) := az_wp_iff.trans az_go_gf
theorem az_s171_25 : az_p171 C Q (25, lv, st, h) ↔ az_mi (lv 1) (fun x => az_p171 C Q (26, lv, .int x :: st, h)) := az_wp_iff.trans az_go_ldi
theorem az_s171_26 {x : Int32} {y : Nat} : az_p171 C Q (26, lv, .int x :: .ref y :: st, h) ↔ az_p171 C Q (27, lv, .int x :: .ref y :: .int x :: .ref y :: st, h) := az_wp_iff
theorem az_s171_26l {x : Int64} : az_p171 C Q (26, lv, .long x :: st, h) ↔ az_p171 C Q (27, lv, .long x :: .long x :: st, h) := az_wp_iff
theorem az_s171_27 {a : Nat} {i : Int32} : az_p171 C Q (27, lv, .int i :: .ref a :: st, h) ↔ az_mr (h.1 a) 0 i.toInt (fun x => az_p171 C Q (28, lv, .int x :: st, h)) := az_wp_iff.trans az_go_ial
theorem az_s171_28 : az_p171 C Q (28, lv, st, h) ↔ az_p171 C Q (29, lv, .int (Int32.ofInt (1)) :: st, h) := az_wp_iff
theorem az_s171_29 {x y : Int32} : az_p171 C Q (29, lv, .int y :: .int x :: st, h) ↔ az_p171 C Q (30, lv, .int (x - y) :: st, h) := az_wp_iff
theorem az_s171_30 {a : Nat} {i x : Int32} : az_p171 C Q (30, lv, .int x :: .int i :: .ref a :: st, h) ↔ az_mw' (h.1 a) i.toInt x (fun c => az_p171 C Q (31, lv, st, az_uh h a c)) := az_wp_iff.trans az_go_ias
theorem az_s171_31 : az_p171 C Q (31, lv, st, h) ↔ az_ma (lv 0) (fun x => az_p171 C Q (32, lv, x :: st, h)) := az_wp_iff.trans az_go_lda
theorem az_s171_32 {a : Nat} : az_p171 C Q (32, lv, .ref a :: st, h) ↔ az_mf (h.1 a) 11 19 (fun v => az_p171 C Q (35, lv, v :: st, h)) := az_wp_iff.trans az_go_gf
theorem az_s171_35 : az_p171 C Q (35, lv, st, h) ↔ az_mi (lv 1) (fun x => az_p171 C Q (36, lv, .int x :: st, h)) := az_wp_iff.trans az_go_ldi
theorem az_s171_36 {a : Nat} {i : Int32} : az_p171 C Q (36, lv, .int i :: .ref a :: st, h) ↔ az_mr (h.1 a) 0 i.toInt (fun x => az_p171 C Q (37, lv, .int x :: st, h)) := az_wp_iff.trans az_go_ial
theorem az_s171_37 {x : Int32} : az_p171 C Q (37, lv, .int x :: st, h) ↔ (x ≤ 0 → az_p171 C Q (41, lv, st, h)) ∧ (¬ x ≤ 0 → az_p171 C Q (40, lv, st, h)) := az_wp_iff.trans (az_go_if1 az_d_eq)
theorem az_s171_40 : az_p171 C Q (40, lv, [], h) ↔ Q none h := az_wp_iff
theorem az_s171_41 : az_p171 C Q (41, lv, st, h) ↔ az_ma (lv 0) (fun x => az_p171 C Q (42, lv, x :: st, h)) := az_wp_iff.trans az_go_lda
theorem az_s171_42 {a : Nat} : az_p171 C Q (42, lv, .ref a :: st, h) ↔ az_mf (h.1 a) 11 18 (fun v => az_p171 C Q (45, lv, v :: st, h)) := az_wp_iff.trans az_go_gf
theorem az_s171_45 : az_p171 C Q (45, lv, st, h) ↔ az_mi (lv 1) (fun x => az_p171 C Q (46, lv, .int x :: st, h)) := az_wp_iff.trans az_go_ldi
theorem az_s171_46 {a : Nat} {i : Int32} : az_p171 C Q (46, lv, .int i :: .ref a :: st, h) ↔ az_mr (h.1 a) 0 i.toInt (fun x => az_p171 C Q (47, lv, .int x :: st, h)) := az_wp_iff.trans az_go_ial
theorem az_s171_47 : az_p171 C Q (47, lv, st, h) ↔ az_p171 C Q (48, lv, .int (Int32.ofInt (1)) :: st, h) := az_wp_iff
theorem az_s171_48 {x y : Int32} : az_p171 C Q (48, lv, .int y :: .int x :: st, h) ↔ (¬ x = y → az_p171 C Q (59, lv, st, h)) ∧ (¬ ¬ x = y → az_p171 C Q (51, lv, st, h)) := az_wp_iff.trans (az_go_if2 az_d_eq)
theorem az_s171_51 : az_p171 C Q (51, lv, st, h) ↔ az_ma (lv 0) (fun x => az_p171 C Q (52, lv, x :: st, h)) := az_wp_iff.trans az_go_lda
theorem az_s171_52 : az_p171 C Q (52, lv, st, h) ↔ az_mi (lv 1) (fun x => az_p171 C Q (53, lv, .int x :: st, h)) := az_wp_iff.trans az_go_ldi
theorem az_s171_53 {a : Nat} {v1 : Value} : az_p171 C Q (53, lv, v1 :: .ref a :: st, h) ↔ az_isob (h.1 a) 11 = true ∧ az_cat st ≤ 8 ∧ az_mc C 165 [.ref a, v1] h (fun v h' => az_p171 C Q (56, lv, v ++ st, h')) := az_wp_iff.trans (az_go_if.trans (and_congr Iff.rfl az_go_call))
theorem az_s171_56 : az_p171 C Q (56, lv, st, h) ↔ az_p171 C Q (66, lv, st, h) := az_wp_iff
theorem az_s171_59 : az_p171 C Q (59, lv, st, h) ↔ az_ma (lv 0) (fun x => az_p171 C Q (60, lv, x :: st, h)) := az_wp_iff.trans az_go_lda
theorem az_s171_60 {a : Nat} : az_p171 C Q (60, lv, .ref a :: st, h) ↔ az_mf (h.1 a) 11 18 (fun v => az_p171 C Q (63, lv, v :: st, h)) := az_wp_iff.trans az_go_gf
theorem az_s171_63 : az_p171 C Q (63, lv, st, h) ↔ az_mi (lv 1) (fun x => az_p171 C Q (64, lv, .int x :: st, h)) := az_wp_iff.trans az_go_ldi
theorem az_s171_64 : az_p171 C Q (64, lv, st, h) ↔ az_p171 C Q (65, lv, .int (Int32.ofInt (0)) :: st, h) := az_wp_iff
theorem az_s171_65 {a : Nat} {i x : Int32} : az_p171 C Q (65, lv, .int x :: .int i :: .ref a :: st, h) ↔ az_mw' (h.1 a) i.toInt x (fun c => az_p171 C Q (66, lv, st, az_uh h a c)) := az_wp_iff.trans az_go_ias
theorem az_s171_66 : az_p171 C Q (66, lv, [], h) ↔ Q none h := az_wp_iff
def az_p172 (C : az_Cl) (Q : Option Value → az_H → Prop) : az_S → Prop := az_wp C (fun _ => none) none (az_fn az_k172) Q
theorem az_s172_0 : az_p172 C Q (0, lv, st, h) ↔ az_ma (lv 0) (fun x => az_p172 C Q (1, lv, x :: st, h)) := az_wp_iff.trans az_go_lda
theorem az_s172_1 {a : Nat} : az_p172 C Q (1, lv, .ref a :: st, h) ↔ az_mf (h.1 a) 11 18 (fun v => az_p172 C Q (4, lv, v :: st, h)) := az_wp_iff.trans az_go_gf
theorem az_s172_4 : az_p172 C Q (4, lv, st, h) ↔ az_mi (lv 1) (fun x => az_p172 C Q (5, lv, .int x :: st, h)) := az_wp_iff.trans az_go_ldi
theorem az_s172_5 {a : Nat} {i : Int32} : az_p172 C Q (5, lv, .int i :: .ref a :: st, h) ↔ az_mr (h.1 a) 0 i.toInt (fun x => az_p172 C Q (6, lv, .int x :: st, h)) := az_wp_iff.trans az_go_ial
theorem az_s172_6 {x : Int32} : az_p172 C Q (6, lv, .int x :: st, h) ↔ (¬ x = 0 → az_p172 C Q (17, lv, st, h)) ∧ (¬ ¬ x = 0 → az_p172 C Q (9, lv, st, h)) := az_wp_iff.trans (az_go_if1 az_d_eq)
theorem az_s172_9 : az_p172 C Q (9, lv, st, h) ↔ az_ma (lv 0) (fun x => az_p172 C Q (10, lv, x :: st, h)) := az_wp_iff.trans az_go_lda
theorem az_s172_10 : az_p172 C Q (10, lv, st, h) ↔ az_mi (lv 1) (fun x => az_p172 C Q (11, lv, .int x :: st, h)) := az_wp_iff.trans az_go_ldi
theorem az_s172_11 {a : Nat} {v1 : Value} : az_p172 C Q (11, lv, v1 :: .ref a :: st, h) ↔ az_isob (h.1 a) 11 = true ∧ az_cat st ≤ 8 ∧ az_mc C 170 [.ref a, v1] h (fun v h' => az_p172 C Q (14, lv, v ++ st, h')) := az_wp_iff.trans (az_go_if.trans (and_congr Iff.rfl az_go_call))
theorem az_s172_14 {x : Int32} : az_p172 C Q (14, lv, .int x :: st, h) ↔ (¬ x = 0 → az_p172 C Q (18, lv, st, h)) ∧ (¬ ¬ x = 0 → az_p172 C Q (17, lv, st, h)) := az_wp_iff.trans (az_go_if1 az_d_eq)
theorem az_s172_17 : az_p172 C Q (17, lv, [], h) ↔ Q none h := az_wp_iff
theorem az_s172_18 : az_p172 C Q (18, lv, st, h) ↔ az_ma (lv 0) (fun x => az_p172 C Q (19, lv, x :: st, h)) := az_wp_iff.trans az_go_lda
theorem az_s172_19 {a : Nat} : az_p172 C Q (19, lv, .ref a :: st, h) ↔ az_mf (h.1 a) 11 21 (fun v => az_p172 C Q (22, lv, v :: st, h)) := az_wp_iff.trans az_go_gf
theorem az_s172_22 : az_p172 C Q (22, lv, st, h) ↔ az_mi (lv 1) (fun x => az_p172 C Q (23, lv, .int x :: st, h)) := az_wp_iff.trans az_go_ldi
theorem az_s172_23 : az_p172 C Q (23, lv, st, h) ↔ az_ma (lv 0) (fun x => az_p172 C Q (24, lv, x :: st, h)) := az_wp_iff.trans az_go_lda
theorem az_s172_24 : az_p172 C Q (24, lv, st, h) ↔ az_ma (lv 0) (fun x => az_p172 C Q (25, lv, x :: st, h)) := az_wp_iff.trans az_go_lda
theorem az_s172_25 {a : Nat} : az_p172 C Q (25, lv, .ref a :: st, h) ↔ az_mf (h.1 a) 11 12 (fun v => az_p172 C Q (28, lv, v :: st, h)) := az_wp_iff.trans az_go_gf
theorem az_s172_28 : az_p172 C Q (28, lv, st, h) ↔ az_p172 C Q (29, lv, .int (Int32.ofInt (2)) :: st, h) := az_wp_iff
theorem az_s172_29 : az_p172 C Q (29, lv, st, h) ↔ az_mi (lv 1) (fun x => az_p172 C Q (30, lv, .int x :: st, h)) := az_wp_iff.trans az_go_ldi
theorem az_s172_30 {x y : Int32} : az_p172 C Q (30, lv, .int y :: .int x :: st, h) ↔ az_p172 C Q (31, lv, .int (x * y) :: st, h) := az_wp_iff
theorem az_s172_31 {a : Nat} {i : Int32} : az_p172 C Q (31, lv, .int i :: .ref a :: st, h) ↔ az_mr (h.1 a) 0 i.toInt (fun x => az_p172 C Q (32, lv, .int x :: st, h)) := az_wp_iff.trans az_go_ial
theorem az_s172_32 {a : Nat} {v1 : Value} : az_p172 C Q (32, lv, v1 :: .ref a :: st, h) ↔ az_isob (h.1 a) 11 = true ∧ az_cat st ≤ 8 ∧ az_mc C 149 [.ref a, v1] h (fun v h' => az_p172 C Q (35, lv, v ++ st, h')) := az_wp_iff.trans (az_go_if.trans (and_congr Iff.rfl az_go_call))
theorem az_s172_35 {a : Nat} {i x : Int32} : az_p172 C Q (35, lv, .int x :: .int i :: .ref a :: st, h) ↔ az_mw' (h.1 a) i.toInt x (fun c => az_p172 C Q (36, lv, st, az_uh h a c)) := az_wp_iff.trans az_go_ias
theorem az_s172_36 : az_p172 C Q (36, lv, st, h) ↔ az_ma (lv 0) (fun x => az_p172 C Q (37, lv, x :: st, h)) := az_wp_iff.trans az_go_lda
theorem az_s172_37 {a : Nat} : az_p172 C Q (37, lv, .ref a :: st, h) ↔ az_mf (h.1 a) 11 11 (fun v => az_p172 C Q (40, lv, v :: st, h)) := az_wp_iff.trans az_go_gf
theorem az_s172_40 : az_p172 C Q (40, lv, st, h) ↔ az_mi (lv 1) (fun x => az_p172 C Q (41, lv, .int x :: st, h)) := az_wp_iff.trans az_go_ldi
theorem az_s172_41 {a : Nat} {i : Int32} : az_p172 C Q (41, lv, .int i :: .ref a :: st, h) ↔ az_mr (h.1 a) 0 i.toInt (fun x => az_p172 C Q (42, lv, .int x :: st, h)) := az_wp_iff.trans az_go_ial
theorem az_s172_42 : az_p172 C Q (42, lv, st, h) ↔ az_p172 C Q (43, lv, .int (Int32.ofInt (2)) :: st, h) := az_wp_iff
theorem az_s172_43 {x y : Int32} : az_p172 C Q (43, lv, .int y :: .int x :: st, h) ↔ (¬ x = y → az_p172 C Q (66, lv, st, h)) ∧ (¬ ¬ x = y → az_p172 C Q (46, lv, st, h)) := az_wp_iff.trans (az_go_if2 az_d_eq)
theorem az_s172_46 : az_p172 C Q (46, lv, st, h) ↔ az_ma (lv 0) (fun x => az_p172 C Q (47, lv, x :: st, h)) := az_wp_iff.trans az_go_lda
theorem az_s172_47 {a : Nat} : az_p172 C Q (47, lv, .ref a :: st, h) ↔ az_mf (h.1 a) 11 22 (fun v => az_p172 C Q (50, lv, v :: st, h)) := az_wp_iff.trans az_go_gf
theorem az_s172_50 : az_p172 C Q (50, lv, st, h) ↔ az_mi (lv 1) (fun x => az_p172 C Q (51, lv, .int x :: st, h)) := az_wp_iff.trans az_go_ldi
theorem az_s172_51 : az_p172 C Q (51, lv, st, h) ↔ az_ma (lv 0) (fun x => az_p172 C Q (52, lv, x :: st, h)) := az_wp_iff.trans az_go_lda
theorem az_s172_52 : az_p172 C Q (52, lv, st, h) ↔ az_ma (lv 0) (fun x => az_p172 C Q (53, lv, x :: st, h)) := az_wp_iff.trans az_go_lda
theorem az_s172_53 {a : Nat} : az_p172 C Q (53, lv, .ref a :: st, h) ↔ az_mf (h.1 a) 11 12 (fun v => az_p172 C Q (56, lv, v :: st, h)) := az_wp_iff.trans az_go_gf
theorem az_s172_56 : az_p172 C Q (56, lv, st, h) ↔ az_p172 C Q (57, lv, .int (Int32.ofInt (2)) :: st, h) := az_wp_iff
theorem az_s172_57 : az_p172 C Q (57, lv, st, h) ↔ az_mi (lv 1) (fun x => az_p172 C Q (58, lv, .int x :: st, h)) := az_wp_iff.trans az_go_ldi
theorem az_s172_58 {x y : Int32} : az_p172 C Q (58, lv, .int y :: .int x :: st, h) ↔ az_p172 C Q (59, lv, .int (x * y) :: st, h) := az_wp_iff
theorem az_s172_59 : az_p172 C Q (59, lv, st, h) ↔ az_p172 C Q (60, lv, .int (Int32.ofInt (1)) :: st, h) := az_wp_iff
theorem az_s172_60 {x y : Int32} : az_p172 C Q (60, lv, .int y :: .int x :: st, h) ↔ az_p172 C Q (61, lv, .int (x + y) :: st, h) := az_wp_iff
theorem az_s172_61 {a : Nat} {i : Int32} : az_p172 C Q (61, lv, .int i :: .ref a :: st, h) ↔ az_mr (h.1 a) 0 i.toInt (fun x => az_p172 C Q (62, lv, .int x :: st, h)) := az_wp_iff.trans az_go_ial
theorem az_s172_62 {a : Nat} {v1 : Value} : az_p172 C Q (62, lv, v1 :: .ref a :: st, h) ↔ az_isob (h.1 a) 11 = true ∧ az_cat st ≤ 8 ∧ az_mc C 149 [.ref a, v1] h (fun v h' => az_p172 C Q (65, lv, v ++ st, h')) := az_wp_iff.trans (az_go_if.trans (and_congr Iff.rfl az_go_call))
theorem az_s172_65 {a : Nat} {i x : Int32} : az_p172 C Q (65, lv, .int x :: .int i :: .ref a :: st, h) ↔ az_mw' (h.1 a) i.toInt x (fun c => az_p172 C Q (66, lv, st, az_uh h a c)) := az_wp_iff.trans az_go_ias
theorem az_s172_66 : az_p172 C Q (66, lv, st, h) ↔ az_ma (lv 0) (fun x => az_p172 C Q (67, lv, x :: st, h)) := az_wp_iff.trans az_go_lda
theorem az_s172_67 {a : Nat} : az_p172 C Q (67, lv, .ref a :: st, h) ↔ az_mf (h.1 a) 11 18 (fun v => az_p172 C Q (70, lv, v :: st, h)) := az_wp_iff.trans az_go_gf
theorem az_s172_70 : az_p172 C Q (70, lv, st, h) ↔ az_mi (lv 1) (fun x => az_p172 C Q (71, lv, .int x :: st, h)) := az_wp_iff.trans az_go_ldi
theorem az_s172_71 : az_p172 C Q (71, lv, st, h) ↔ az_p172 C Q (72, lv, .int (Int32.ofInt (1)) :: st, h) := az_wp_iff
theorem az_s172_72 {a : Nat} {i x : Int32} : az_p172 C Q (72, lv, .int x :: .int i :: .ref a :: st, h) ↔ az_mw' (h.1 a) i.toInt x (fun c => az_p172 C Q (73, lv, st, az_uh h a c)) := az_wp_iff.trans az_go_ias
theorem az_s172_73 : az_p172 C Q (73, lv, st, h) ↔ az_ma (lv 0) (fun x => az_p172 C Q (74, lv, x :: st, h)) := az_wp_iff.trans az_go_lda
theorem az_s172_74 {a : Nat} : az_p172 C Q (74, lv, .ref a :: st, h) ↔ az_mf (h.1 a) 11 19 (fun v => az_p172 C Q (77, lv, v :: st, h)) := az_wp_iff.trans az_go_gf
theorem az_s172_77 : az_p172 C Q (77, lv, st, h) ↔ az_mi (lv 1) (fun x => az_p172 C Q (78, lv, .int x :: st, h)) := az_wp_iff.trans az_go_ldi
theorem az_s172_78 : az_p172 C Q (78, lv, st, h) ↔ az_ma (lv 0) (fun x => az_p172 C Q (79, lv, x :: st, h)) := az_wp_iff.trans az_go_lda
theorem az_s172_79 {a : Nat} : az_p172 C Q (79, lv, .ref a :: st, h) ↔ az_mf (h.1 a) 11 10 (fun v => az_p172 C Q (82, lv, v :: st, h)) := az_wp_iff.trans az_go_gf
theorem az_s172_82 : az_p172 C Q (82, lv, st, h) ↔ az_mi (lv 1) (fun x => az_p172 C Q (83, lv, .int x :: st, h)) := az_wp_iff.trans az_go_ldi
theorem az_s172_83 {a : Nat} {i : Int32} : az_p172 C Q (83, lv, .int i :: .ref a :: st, h) ↔ az_mr (h.1 a) 0 i.toInt (fun x => az_p172 C Q (84, lv, .int x :: st, h)) := az_wp_iff.trans az_go_ial
theorem az_s172_84 {a : Nat} {i x : Int32} : az_p172 C Q (84, lv, .int x :: .int i :: .ref a :: st, h) ↔ az_mw' (h.1 a) i.toInt x (fun c => az_p172 C Q (85, lv, st, az_uh h a c)) := az_wp_iff.trans az_go_ias
theorem az_s172_85 : az_p172 C Q (85, lv, [], h) ↔ Q none h := az_wp_iff
def az_p173 (C : az_Cl) (Q : Option Value → az_H → Prop) : az_S → Prop := az_wp C (fun _ => none) none (az_fn az_k173) Q
theorem az_s173_0 : az_p173 C Q (0, lv, st, h) ↔ az_ma (lv 0) (fun x => az_p173 C Q (1, lv, x :: st, h)) := az_wp_iff.trans az_go_lda
theorem az_s173_1 {x : Int32} : az_p173 C Q (1, lv, .int x :: st, h) ↔ az_p173 C Q (2, lv, .int x :: .int x :: st, h) := az_wp_iff
theorem az_s173_1r {x : Nat} : az_p173 C Q (1, lv, .ref x :: st, h) ↔ az_p173 C Q (2, lv, .ref x :: .ref x :: st, h) := az_wp_iff
theorem az_s173_2 {a : Nat} : az_p173 C Q (2, lv, .ref a :: st, h) ↔ az_mf (h.1 a) 11 2 (fun v => az_p173 C Q (5, lv, v :: st, h)) := az_wp_iff.trans az_go_gf
theorem az_s173_5 : az_p173 C Q (5, lv, st, h) ↔ az_p173 C Q (6, lv, .int (Int32.ofInt (1)) :: st, h) := az_wp_iff
theorem az_s173_6 {x y : Int32} : az_p173 C Q (6, lv, .int y :: .int x :: st, h) ↔ az_p173 C Q (7, lv, .int (x + y) :: st, h) := az_wp_iff
theorem az_s173_7 {a : Nat} {v : Value} : az_p173 C Q (7, lv, v :: .ref a :: st, h) ↔ az_mp (h.1 a) 11 2 0 v (fun c => az_p173 C Q (10, lv, st, az_uh h a c)) := az_wp_iff.trans az_go_pf
theorem az_s173_10 : az_p173 C Q (10, lv, st, h) ↔ az_p173 C Q (12, lv, .int (Int32.ofInt (11)) :: st, h) := az_wp_iff
theorem az_s173_12 {x : Int32} : az_p173 C Q (12, lv, .int x :: st, h) ↔ az_p173 C Q (13, (az_s1 lv 1 (.int x)), st, h) := az_wp_iff
theorem az_s173_13 : az_p173 C Q (13, lv, st, h) ↔ az_mi (lv 1) (fun x => az_p173 C Q (14, lv, .int x :: st, h)) := az_wp_iff.trans az_go_ldi
theorem az_s173_14 {x : Int32} : az_p173 C Q (14, lv, .int x :: st, h) ↔ (x < 0 → az_p173 C Q (37, lv, st, h)) ∧ (¬ x < 0 → az_p173 C Q (17, lv, st, h)) := az_wp_iff.trans (az_go_if1 az_d_eq)
theorem az_s173_17 : az_p173 C Q (17, lv, st, h) ↔ az_ma (lv 0) (fun x => az_p173 C Q (18, lv, x :: st, h)) := az_wp_iff.trans az_go_lda
theorem az_s173_18 {a : Nat} : az_p173 C Q (18, lv, .ref a :: st, h) ↔ az_mf (h.1 a) 11 7 (fun v => az_p173 C Q (21, lv, v :: st, h)) := az_wp_iff.trans az_go_gf
theorem az_s173_21 : az_p173 C Q (21, lv, st, h) ↔ az_mi (lv 1) (fun x => az_p173 C Q (22, lv, .int x :: st, h)) := az_wp_iff.trans az_go_ldi
theorem az_s173_22 {a : Nat} {i : Int32} : az_p173 C Q (22, lv, .int i :: .ref a :: st, h) ↔ az_mr (h.1 a) 1 i.toInt (fun x => az_p173 C Q (23, lv, .int x :: st, h)) := az_wp_iff.trans az_go_ial
theorem az_s173_23 {x : Int32} : az_p173 C Q (23, lv, .int x :: st, h) ↔ (x = 0 → az_p173 C Q (31, lv, st, h)) ∧ (¬ x = 0 → az_p173 C Q (26, lv, st, h)) := az_wp_iff.trans (az_go_if1 az_d_eq)
theorem az_s173_26 : az_p173 C Q (26, lv, st, h) ↔ az_ma (lv 0) (fun x => az_p173 C Q (27, lv, x :: st, h)) := az_wp_iff.trans az_go_lda
theorem az_s173_27 : az_p173 C Q (27, lv, st, h) ↔ az_mi (lv 1) (fun x => az_p173 C Q (28, lv, .int x :: st, h)) := az_wp_iff.trans az_go_ldi
theorem az_s173_28 {a : Nat} {v1 : Value} : az_p173 C Q (28, lv, v1 :: .ref a :: st, h) ↔ az_isob (h.1 a) 11 = true ∧ az_cat st ≤ 8 ∧ az_mc C 171 [.ref a, v1] h (fun v h' => az_p173 C Q (31, lv, v ++ st, h')) := az_wp_iff.trans (az_go_if.trans (and_congr Iff.rfl az_go_call))
theorem az_s173_31 : az_p173 C Q (31, lv, st, h) ↔ az_mi (lv 1) (fun x => az_p173 C Q (34, (az_s1 lv 1 (.int (x + Int32.ofInt (-1)))), st, h)) := az_wp_iff.trans az_go_inc
theorem az_s173_34 : az_p173 C Q (34, lv, st, h) ↔ az_p173 C Q (13, lv, st, h) := az_wp_iff
theorem az_s173_37 : az_p173 C Q (37, lv, st, h) ↔ az_p173 C Q (39, lv, .int (Int32.ofInt (11)) :: st, h) := az_wp_iff
theorem az_s173_39 {x : Int32} : az_p173 C Q (39, lv, .int x :: st, h) ↔ az_p173 C Q (40, (az_s1 lv 1 (.int x)), st, h) := az_wp_iff
theorem az_s173_40 : az_p173 C Q (40, lv, st, h) ↔ az_mi (lv 1) (fun x => az_p173 C Q (41, lv, .int x :: st, h)) := az_wp_iff.trans az_go_ldi
theorem az_s173_41 {x : Int32} : az_p173 C Q (41, lv, .int x :: st, h) ↔ (x < 0 → az_p173 C Q (82, lv, st, h)) ∧ (¬ x < 0 → az_p173 C Q (44, lv, st, h)) := az_wp_iff.trans (az_go_if1 az_d_eq)
theorem az_s173_44 : az_p173 C Q (44, lv, st, h) ↔ az_ma (lv 0) (fun x => az_p173 C Q (45, lv, x :: st, h)) := az_wp_iff.trans az_go_lda
theorem az_s173_45 {a : Nat} : az_p173 C Q (45, lv, .ref a :: st, h) ↔ az_mf (h.1 a) 11 7 (fun v => az_p173 C Q (48, lv, v :: st, h)) := az_wp_iff.trans az_go_gf
theorem az_s173_48 : az_p173 C Q (48, lv, st, h) ↔ az_mi (lv 1) (fun x => az_p173 C Q (49, lv, .int x :: st, h)) := az_wp_iff.trans az_go_ldi
theorem az_s173_49 {a : Nat} {i : Int32} : az_p173 C Q (49, lv, .int i :: .ref a :: st, h) ↔ az_mr (h.1 a) 1 i.toInt (fun x => az_p173 C Q (50, lv, .int x :: st, h)) := az_wp_iff.trans az_go_ial
theorem az_s173_50 {x : Int32} : az_p173 C Q (50, lv, .int x :: st, h) ↔ (x = 0 → az_p173 C Q (76, lv, st, h)) ∧ (¬ x = 0 → az_p173 C Q (53, lv, st, h)) := az_wp_iff.trans (az_go_if1 az_d_eq)
theorem az_s173_53 : az_p173 C Q (53, lv, st, h) ↔ az_ma (lv 0) (fun x => az_p173 C Q (54, lv, x :: st, h)) := az_wp_iff.trans az_go_lda
theorem az_s173_54 {a : Nat} : az_p173 C Q (54, lv, .ref a :: st, h) ↔ az_mf (h.1 a) 11 18 (fun v => az_p173 C Q (57, lv, v :: st, h)) := az_wp_iff.trans az_go_gf
theorem az_s173_57 : az_p173 C Q (57, lv, st, h) ↔ az_mi (lv 1) (fun x => az_p173 C Q (58, lv, .int x :: st, h)) := az_wp_iff.trans az_go_ldi
theorem az_s173_58 {a : Nat} {i : Int32} : az_p173 C Q (58, lv, .int i :: .ref a :: st, h) ↔ az_mr (h.1 a) 0 i.toInt (fun x => az_p173 C Q (59, lv, .int x :: st, h)) := az_wp_iff.trans az_go_ial
theorem az_s173_59 : az_p173 C Q (59, lv, st, h) ↔ az_p173 C Q (60, lv, .int (Int32.ofInt (2)) :: st, h) := az_wp_iff
theorem az_s173_60 {x y : Int32} : az_p173 C Q (60, lv, .int y :: .int x :: st, h) ↔ (¬ x = y → az_p173 C Q (76, lv, st, h)) ∧ (¬ ¬ x = y → az_p173 C Q (63, lv, st, h)) := az_wp_iff.trans (az_go_if2 az_d_eq)
theorem az_s173_63 : az_p173 C Q (63, lv, st, h) ↔ az_ma (lv 0) (fun x => az_p173 C Q (64, lv, x :: st, h)) := az_wp_iff.trans az_go_lda
theorem az_s173_64 : az_p173 C Q (64, lv, st, h) ↔ az_mi (lv 1) (fun x => az_p173 C Q (65, lv, .int x :: st, h)) := az_wp_iff.trans az_go_ldi
theorem az_s173_65 {a : Nat} {v1 : Value} : az_p173 C Q (65, lv, v1 :: .ref a :: st, h) ↔ az_isob (h.1 a) 11 = true ∧ az_cat st ≤ 8 ∧ az_mc C 168 [.ref a, v1] h (fun v h' => az_p173 C Q (68, lv, v ++ st, h')) := az_wp_iff.trans (az_go_if.trans (and_congr Iff.rfl az_go_call))
theorem az_s173_68 {x : Int32} : az_p173 C Q (68, lv, .int x :: st, h) ↔ (x = 0 → az_p173 C Q (76, lv, st, h)) ∧ (¬ x = 0 → az_p173 C Q (71, lv, st, h)) := az_wp_iff.trans (az_go_if1 az_d_eq)
theorem az_s173_71 : az_p173 C Q (71, lv, st, h) ↔ az_ma (lv 0) (fun x => az_p173 C Q (72, lv, x :: st, h)) := az_wp_iff.trans az_go_lda
theorem az_s173_72 : az_p173 C Q (72, lv, st, h) ↔ az_mi (lv 1) (fun x => az_p173 C Q (73, lv, .int x :: st, h)) := az_wp_iff.trans az_go_ldi
theorem az_s173_73 {a : Nat} {v1 : Value} : az_p173 C Q (73, lv, v1 :: .ref a :: st, h) ↔ az_isob (h.1 a) 11 = true ∧ az_cat st ≤ 8 ∧ az_mc C 169 [.ref a, v1] h (fun v h' => az_p173 C Q (76, lv, v ++ st, h')) := az_wp_iff.trans (az_go_if.trans (and_congr Iff.rfl az_go_call))
theorem az_s173_76 : az_p173 C Q (76, lv, st, h) ↔ az_mi (lv 1) (fun x => az_p173 C Q (79, (az_s1 lv 1 (.int (x + Int32.ofInt (-1)))), st, h)) := az_wp_iff.trans az_go_inc
theorem az_s173_79 : az_p173 C Q (79, lv, st, h) ↔ az_p173 C Q (40, lv, st, h) := az_wp_iff
theorem az_s173_82 : az_p173 C Q (82, lv, st, h) ↔ az_p173 C Q (84, lv, .int (Int32.ofInt (11)) :: st, h) := az_wp_iff
theorem az_s173_84 {x : Int32} : az_p173 C Q (84, lv, .int x :: st, h) ↔ az_p173 C Q (85, (az_s1 lv 1 (.int x)), st, h) := az_wp_iff
theorem az_s173_85 : az_p173 C Q (85, lv, st, h) ↔ az_mi (lv 1) (fun x => az_p173 C Q (86, lv, .int x :: st, h)) := az_wp_iff.trans az_go_ldi
theorem az_s173_86 {x : Int32} : az_p173 C Q (86, lv, .int x :: st, h) ↔ (x < 0 → az_p173 C Q (109, lv, st, h)) ∧ (¬ x < 0 → az_p173 C Q (89, lv, st, h)) := az_wp_iff.trans (az_go_if1 az_d_eq)
theorem az_s173_89 : az_p173 C Q (89, lv, st, h) ↔ az_ma (lv 0) (fun x => az_p173 C Q (90, lv, x :: st, h)) := az_wp_iff.trans az_go_lda
theorem az_s173_90 {a : Nat} : az_p173 C Q (90, lv, .ref a :: st, h) ↔ az_mf (h.1 a) 11 7 (fun v => az_p173 C Q (93, lv, v :: st, h)) := az_wp_iff.trans az_go_gf
theorem az_s173_93 : az_p173 C Q (93, lv, st, h) ↔ az_mi (lv 1) (fun x => az_p173 C Q (94, lv, .int x :: st, h)) := az_wp_iff.trans az_go_ldi
theorem az_s173_94 {a : Nat} {i : Int32} : az_p173 C Q (94, lv, .int i :: .ref a :: st, h) ↔ az_mr (h.1 a) 1 i.toInt (fun x => az_p173 C Q (95, lv, .int x :: st, h)) := az_wp_iff.trans az_go_ial
theorem az_s173_95 {x : Int32} : az_p173 C Q (95, lv, .int x :: st, h) ↔ (x = 0 → az_p173 C Q (103, lv, st, h)) ∧ (¬ x = 0 → az_p173 C Q (98, lv, st, h)) := az_wp_iff.trans (az_go_if1 az_d_eq)
theorem az_s173_98 : az_p173 C Q (98, lv, st, h) ↔ az_ma (lv 0) (fun x => az_p173 C Q (99, lv, x :: st, h)) := az_wp_iff.trans az_go_lda
theorem az_s173_99 : az_p173 C Q (99, lv, st, h) ↔ az_mi (lv 1) (fun x => az_p173 C Q (100, lv, .int x :: st, h)) := az_wp_iff.trans az_go_ldi
theorem az_s173_100 {a : Nat} {v1 : Value} : az_p173 C Q (100, lv, v1 :: .ref a :: st, h) ↔ az_isob (h.1 a) 11 = true ∧ az_cat st ≤ 8 ∧ az_mc C 172 [.ref a, v1] h (fun v h' => az_p173 C Q (103, lv, v ++ st, h')) := az_wp_iff.trans (az_go_if.trans (and_congr Iff.rfl az_go_call))
theorem az_s173_103 : az_p173 C Q (103, lv, st, h) ↔ az_mi (lv 1) (fun x => az_p173 C Q (106, (az_s1 lv 1 (.int (x + Int32.ofInt (-1)))), st, h)) := az_wp_iff.trans az_go_inc
theorem az_s173_106 : az_p173 C Q (106, lv, st, h) ↔ az_p173 C Q (85, lv, st, h) := az_wp_iff
theorem az_s173_109 : az_p173 C Q (109, lv, st, h) ↔ az_p173 C Q (110, lv, .int (Int32.ofInt (0)) :: st, h) := az_wp_iff
theorem az_s173_110 {x : Int32} : az_p173 C Q (110, lv, .int x :: st, h) ↔ az_p173 C Q (111, (az_s1 lv 1 (.int x)), st, h) := az_wp_iff
theorem az_s173_111 : az_p173 C Q (111, lv, st, h) ↔ az_mi (lv 1) (fun x => az_p173 C Q (112, lv, .int x :: st, h)) := az_wp_iff.trans az_go_ldi
theorem az_s173_112 : az_p173 C Q (112, lv, st, h) ↔ az_p173 C Q (114, lv, .int (Int32.ofInt (12)) :: st, h) := az_wp_iff
theorem az_s173_114 {x y : Int32} : az_p173 C Q (114, lv, .int y :: .int x :: st, h) ↔ (y ≤ x → az_p173 C Q (206, lv, st, h)) ∧ (¬ y ≤ x → az_p173 C Q (117, lv, st, h)) := az_wp_iff.trans (az_go_if2 az_d_eq)
theorem az_s173_117 : az_p173 C Q (117, lv, st, h) ↔ az_ma (lv 0) (fun x => az_p173 C Q (118, lv, x :: st, h)) := az_wp_iff.trans az_go_lda
theorem az_s173_118 {a : Nat} : az_p173 C Q (118, lv, .ref a :: st, h) ↔ az_mf (h.1 a) 11 7 (fun v => az_p173 C Q (121, lv, v :: st, h)) := az_wp_iff.trans az_go_gf
theorem az_s173_121 : az_p173 C Q (121, lv, st, h) ↔ az_mi (lv 1) (fun x => az_p173 C Q (122, lv, .int x :: st, h)) := az_wp_iff.trans az_go_ldi
theorem az_s173_122 {a : Nat} {i : Int32} : az_p173 C Q (122, lv, .int i :: .ref a :: st, h) ↔ az_mr (h.1 a) 1 i.toInt (fun x => az_p173 C Q (123, lv, .int x :: st, h)) := az_wp_iff.trans az_go_ial
theorem az_s173_123 {x : Int32} : az_p173 C Q (123, lv, .int x :: st, h) ↔ (¬ x = 0 → az_p173 C Q (129, lv, st, h)) ∧ (¬ ¬ x = 0 → az_p173 C Q (126, lv, st, h)) := az_wp_iff.trans (az_go_if1 az_d_eq)
theorem az_s173_126 : az_p173 C Q (126, lv, st, h) ↔ az_p173 C Q (200, lv, st, h) := az_wp_iff
theorem az_s173_129 : az_p173 C Q (129, lv, st, h) ↔ az_ma (lv 0) (fun x => az_p173 C Q (130, lv, x :: st, h)) := az_wp_iff.trans az_go_lda
theorem az_s173_130 {a : Nat} : az_p173 C Q (130, lv, .ref a :: st, h) ↔ az_mf (h.1 a) 11 29 (fun v => az_p173 C Q (133, lv, v :: st, h)) := az_wp_iff.trans az_go_gf
theorem az_s173_133 : az_p173 C Q (133, lv, st, h) ↔ az_mi (lv 1) (fun x => az_p173 C Q (134, lv, .int x :: st, h)) := az_wp_iff.trans az_go_ldi
theorem az_s173_134 {x : Int32} {y : Nat} : az_p173 C Q (134, lv, .int x :: .ref y :: st, h) ↔ az_p173 C Q (135, lv, .int x :: .ref y :: .int x :: .ref y :: st, h) := az_wp_iff
theorem az_s173_134l {x : Int64} : az_p173 C Q (134, lv, .long x :: st, h) ↔ az_p173 C Q (135, lv, .long x :: .long x :: st, h) := az_wp_iff
theorem az_s173_135 {a : Nat} {i : Int32} : az_p173 C Q (135, lv, .int i :: .ref a :: st, h) ↔ az_mr (h.1 a) 0 i.toInt (fun x => az_p173 C Q (136, lv, .int x :: st, h)) := az_wp_iff.trans az_go_ial
theorem az_s173_136 : az_p173 C Q (136, lv, st, h) ↔ az_ma (lv 0) (fun x => az_p173 C Q (137, lv, x :: st, h)) := az_wp_iff.trans az_go_lda
theorem az_s173_137 {a : Nat} : az_p173 C Q (137, lv, .ref a :: st, h) ↔ az_mf (h.1 a) 11 18 (fun v => az_p173 C Q (140, lv, v :: st, h)) := az_wp_iff.trans az_go_gf
theorem az_s173_140 : az_p173 C Q (140, lv, st, h) ↔ az_mi (lv 1) (fun x => az_p173 C Q (141, lv, .int x :: st, h)) := az_wp_iff.trans az_go_ldi
theorem az_s173_141 {a : Nat} {i : Int32} : az_p173 C Q (141, lv, .int i :: .ref a :: st, h) ↔ az_mr (h.1 a) 0 i.toInt (fun x => az_p173 C Q (142, lv, .int x :: st, h)) := az_wp_iff.trans az_go_ial
theorem az_s173_142 {x : Int32} : az_p173 C Q (142, lv, .int x :: st, h) ↔ (¬ x = 0 → az_p173 C Q (149, lv, st, h)) ∧ (¬ ¬ x = 0 → az_p173 C Q (145, lv, st, h)) := az_wp_iff.trans (az_go_if1 az_d_eq)
theorem az_s173_145 : az_p173 C Q (145, lv, st, h) ↔ az_p173 C Q (146, lv, .int (Int32.ofInt (1)) :: st, h) := az_wp_iff
theorem az_s173_146 : az_p173 C Q (146, lv, st, h) ↔ az_p173 C Q (150, lv, st, h) := az_wp_iff
theorem az_s173_149 : az_p173 C Q (149, lv, st, h) ↔ az_p173 C Q (150, lv, .int (Int32.ofInt (0)) :: st, h) := az_wp_iff
theorem az_s173_150 {x y : Int32} : az_p173 C Q (150, lv, .int y :: .int x :: st, h) ↔ az_p173 C Q (151, lv, .int (x + y) :: st, h) := az_wp_iff
theorem az_s173_151 {a : Nat} {i x : Int32} : az_p173 C Q (151, lv, .int x :: .int i :: .ref a :: st, h) ↔ az_mw' (h.1 a) i.toInt x (fun c => az_p173 C Q (152, lv, st, az_uh h a c)) := az_wp_iff.trans az_go_ias
theorem az_s173_152 : az_p173 C Q (152, lv, st, h) ↔ az_ma (lv 0) (fun x => az_p173 C Q (153, lv, x :: st, h)) := az_wp_iff.trans az_go_lda
theorem az_s173_153 {a : Nat} : az_p173 C Q (153, lv, .ref a :: st, h) ↔ az_mf (h.1 a) 11 30 (fun v => az_p173 C Q (156, lv, v :: st, h)) := az_wp_iff.trans az_go_gf
theorem az_s173_156 : az_p173 C Q (156, lv, st, h) ↔ az_mi (lv 1) (fun x => az_p173 C Q (157, lv, .int x :: st, h)) := az_wp_iff.trans az_go_ldi
theorem az_s173_157 {x : Int32} {y : Nat} : az_p173 C Q (157, lv, .int x :: .ref y :: st, h) ↔ az_p173 C Q (158, lv, .int x :: .ref y :: .int x :: .ref y :: st, h) := az_wp_iff
theorem az_s173_157l {x : Int64} : az_p173 C Q (157, lv, .long x :: st, h) ↔ az_p173 C Q (158, lv, .long x :: .long x :: st, h) := az_wp_iff
theorem az_s173_158 {a : Nat} {i : Int32} : az_p173 C Q (158, lv, .int i :: .ref a :: st, h) ↔ az_mr (h.1 a) 0 i.toInt (fun x => az_p173 C Q (159, lv, .int x :: st, h)) := az_wp_iff.trans az_go_ial
theorem az_s173_159 : az_p173 C Q (159, lv, st, h) ↔ az_ma (lv 0) (fun x => az_p173 C Q (160, lv, x :: st, h)) := az_wp_iff.trans az_go_lda
theorem az_s173_160 {a : Nat} : az_p173 C Q (160, lv, .ref a :: st, h) ↔ az_mf (h.1 a) 11 18 (fun v => az_p173 C Q (163, lv, v :: st, h)) := az_wp_iff.trans az_go_gf
theorem az_s173_163 : az_p173 C Q (163, lv, st, h) ↔ az_mi (lv 1) (fun x => az_p173 C Q (164, lv, .int x :: st, h)) := az_wp_iff.trans az_go_ldi
theorem az_s173_164 {a : Nat} {i : Int32} : az_p173 C Q (164, lv, .int i :: .ref a :: st, h) ↔ az_mr (h.1 a) 0 i.toInt (fun x => az_p173 C Q (165, lv, .int x :: st, h)) := az_wp_iff.trans az_go_ial
theorem az_s173_165 : az_p173 C Q (165, lv, st, h) ↔ az_p173 C Q (166, lv, .int (Int32.ofInt (2)) :: st, h) := az_wp_iff
theorem az_s173_166 {x y : Int32} : az_p173 C Q (166, lv, .int y :: .int x :: st, h) ↔ (¬ x = y → az_p173 C Q (173, lv, st, h)) ∧ (¬ ¬ x = y → az_p173 C Q (169, lv, st, h)) := az_wp_iff.trans (az_go_if2 az_d_eq)
theorem az_s173_169 : az_p173 C Q (169, lv, st, h) ↔ az_p173 C Q (170, lv, .int (Int32.ofInt (1)) :: st, h) := az_wp_iff
theorem az_s173_170 : az_p173 C Q (170, lv, st, h) ↔ az_p173 C Q (174, lv, st, h) := az_wp_iff
theorem az_s173_173 : az_p173 C Q (173, lv, st, h) ↔ az_p173 C Q (174, lv, .int (Int32.ofInt (0)) :: st, h) := az_wp_iff
theorem az_s173_174 {x y : Int32} : az_p173 C Q (174, lv, .int y :: .int x :: st, h) ↔ az_p173 C Q (175, lv, .int (x + y) :: st, h) := az_wp_iff
theorem az_s173_175 {a : Nat} {i x : Int32} : az_p173 C Q (175, lv, .int x :: .int i :: .ref a :: st, h) ↔ az_mw' (h.1 a) i.toInt x (fun c => az_p173 C Q (176, lv, st, az_uh h a c)) := az_wp_iff.trans az_go_ias
theorem az_s173_176 : az_p173 C Q (176, lv, st, h) ↔ az_ma (lv 0) (fun x => az_p173 C Q (177, lv, x :: st, h)) := az_wp_iff.trans az_go_lda
theorem az_s173_177 {a : Nat} : az_p173 C Q (177, lv, .ref a :: st, h) ↔ az_mf (h.1 a) 11 31 (fun v => az_p173 C Q (180, lv, v :: st, h)) := az_wp_iff.trans az_go_gf
theorem az_s173_180 : az_p173 C Q (180, lv, st, h) ↔ az_mi (lv 1) (fun x => az_p173 C Q (181, lv, .int x :: st, h)) := az_wp_iff.trans az_go_ldi
theorem az_s173_181 {x : Int32} {y : Nat} : az_p173 C Q (181, lv, .int x :: .ref y :: st, h) ↔ az_p173 C Q (182, lv, .int x :: .ref y :: .int x :: .ref y :: st, h) := az_wp_iff
theorem az_s173_181l {x : Int64} : az_p173 C Q (181, lv, .long x :: st, h) ↔ az_p173 C Q (182, lv, .long x :: .long x :: st, h) := az_wp_iff
theorem az_s173_182 {a : Nat} {i : Int32} : az_p173 C Q (182, lv, .int i :: .ref a :: st, h) ↔ az_mr (h.1 a) 0 i.toInt (fun x => az_p173 C Q (183, lv, .int x :: st, h)) := az_wp_iff.trans az_go_ial
theorem az_s173_183 : az_p173 C Q (183, lv, st, h) ↔ az_ma (lv 0) (fun x => az_p173 C Q (184, lv, x :: st, h)) := az_wp_iff.trans az_go_lda
theorem az_s173_184 {a : Nat} : az_p173 C Q (184, lv, .ref a :: st, h) ↔ az_mf (h.1 a) 11 18 (fun v => az_p173 C Q (187, lv, v :: st, h)) := az_wp_iff.trans az_go_gf
theorem az_s173_187 : az_p173 C Q (187, lv, st, h) ↔ az_mi (lv 1) (fun x => az_p173 C Q (188, lv, .int x :: st, h)) := az_wp_iff.trans az_go_ldi
theorem az_s173_188 {a : Nat} {i : Int32} : az_p173 C Q (188, lv, .int i :: .ref a :: st, h) ↔ az_mr (h.1 a) 0 i.toInt (fun x => az_p173 C Q (189, lv, .int x :: st, h)) := az_wp_iff.trans az_go_ial
theorem az_s173_189 : az_p173 C Q (189, lv, st, h) ↔ az_p173 C Q (190, lv, .int (Int32.ofInt (3)) :: st, h) := az_wp_iff
theorem az_s173_190 {x y : Int32} : az_p173 C Q (190, lv, .int y :: .int x :: st, h) ↔ (¬ x = y → az_p173 C Q (197, lv, st, h)) ∧ (¬ ¬ x = y → az_p173 C Q (193, lv, st, h)) := az_wp_iff.trans (az_go_if2 az_d_eq)
theorem az_s173_193 : az_p173 C Q (193, lv, st, h) ↔ az_p173 C Q (194, lv, .int (Int32.ofInt (1)) :: st, h) := az_wp_iff
theorem az_s173_194 : az_p173 C Q (194, lv, st, h) ↔ az_p173 C Q (198, lv, st, h) := az_wp_iff
theorem az_s173_197 : az_p173 C Q (197, lv, st, h) ↔ az_p173 C Q (198, lv, .int (Int32.ofInt (0)) :: st, h) := az_wp_iff
theorem az_s173_198 {x y : Int32} : az_p173 C Q (198, lv, .int y :: .int x :: st, h) ↔ az_p173 C Q (199, lv, .int (x + y) :: st, h) := az_wp_iff
theorem az_s173_199 {a : Nat} {i x : Int32} : az_p173 C Q (199, lv, .int x :: .int i :: .ref a :: st, h) ↔ az_mw' (h.1 a) i.toInt x (fun c => az_p173 C Q (200, lv, st, az_uh h a c)) := az_wp_iff.trans az_go_ias
theorem az_s173_200 : az_p173 C Q (200, lv, st, h) ↔ az_mi (lv 1) (fun x => az_p173 C Q (203, (az_s1 lv 1 (.int (x + Int32.ofInt (1)))), st, h)) := az_wp_iff.trans az_go_inc
theorem az_s173_203 : az_p173 C Q (203, lv, st, h) ↔ az_p173 C Q (111, lv, st, h) := az_wp_iff
theorem az_s173_206 : az_p173 C Q (206, lv, st, h) ↔ az_p173 C Q (207, lv, .int (Int32.ofInt (0)) :: st, h) := az_wp_iff
theorem az_s173_207 {x : Int32} : az_p173 C Q (207, lv, .int x :: st, h) ↔ az_p173 C Q (208, (az_s1 lv 1 (.int x)), st, h) := az_wp_iff
theorem az_s173_208 : az_p173 C Q (208, lv, st, h) ↔ az_mi (lv 1) (fun x => az_p173 C Q (209, lv, .int x :: st, h)) := az_wp_iff.trans az_go_ldi
theorem az_s173_209 : az_p173 C Q (209, lv, st, h) ↔ az_p173 C Q (211, lv, .int (Int32.ofInt (16)) :: st, h) := az_wp_iff
theorem az_s173_211 {x y : Int32} : az_p173 C Q (211, lv, .int y :: .int x :: st, h) ↔ (y ≤ x → az_p173 C Q (256, lv, st, h)) ∧ (¬ y ≤ x → az_p173 C Q (214, lv, st, h)) := az_wp_iff.trans (az_go_if2 az_d_eq)
theorem az_s173_214 : az_p173 C Q (214, lv, st, h) ↔ az_ma (lv 0) (fun x => az_p173 C Q (215, lv, x :: st, h)) := az_wp_iff.trans az_go_lda
theorem az_s173_215 {a : Nat} : az_p173 C Q (215, lv, .ref a :: st, h) ↔ az_mf (h.1 a) 11 6 (fun v => az_p173 C Q (218, lv, v :: st, h)) := az_wp_iff.trans az_go_gf
theorem az_s173_218 : az_p173 C Q (218, lv, st, h) ↔ az_mi (lv 1) (fun x => az_p173 C Q (219, lv, .int x :: st, h)) := az_wp_iff.trans az_go_ldi
theorem az_s173_219 : az_p173 C Q (219, lv, st, h) ↔ az_ma (lv 0) (fun x => az_p173 C Q (220, lv, x :: st, h)) := az_wp_iff.trans az_go_lda
theorem az_s173_220 {a : Nat} : az_p173 C Q (220, lv, .ref a :: st, h) ↔ az_mf (h.1 a) 11 4 (fun v => az_p173 C Q (223, lv, v :: st, h)) := az_wp_iff.trans az_go_gf
theorem az_s173_223 : az_p173 C Q (223, lv, st, h) ↔ az_mi (lv 1) (fun x => az_p173 C Q (224, lv, .int x :: st, h)) := az_wp_iff.trans az_go_ldi
theorem az_s173_224 {a : Nat} {i : Int32} : az_p173 C Q (224, lv, .int i :: .ref a :: st, h) ↔ az_mr (h.1 a) 0 i.toInt (fun x => az_p173 C Q (225, lv, .int x :: st, h)) := az_wp_iff.trans az_go_ial
theorem az_s173_225 : az_p173 C Q (225, lv, st, h) ↔ az_ma (lv 0) (fun x => az_p173 C Q (226, lv, x :: st, h)) := az_wp_iff.trans az_go_lda
theorem az_s173_226 {a : Nat} : az_p173 C Q (226, lv, .ref a :: st, h) ↔ az_mf (h.1 a) 11 6 (fun v => az_p173 C Q (229, lv, v :: st, h)) := az_wp_iff.trans az_go_gf
theorem az_s173_229 : az_p173 C Q (229, lv, st, h) ↔ az_mi (lv 1) (fun x => az_p173 C Q (230, lv, .int x :: st, h)) := az_wp_iff.trans az_go_ldi
theorem az_s173_230 {a : Nat} {i : Int32} : az_p173 C Q (230, lv, .int i :: .ref a :: st, h) ↔ az_mr (h.1 a) 0 i.toInt (fun x => az_p173 C Q (231, lv, .int x :: st, h)) := az_wp_iff.trans az_go_ial
theorem az_s173_231 {x y : Int32} : az_p173 C Q (231, lv, .int y :: .int x :: st, h) ↔ (x ≤ y → az_p173 C Q (243, lv, st, h)) ∧ (¬ x ≤ y → az_p173 C Q (234, lv, st, h)) := az_wp_iff.trans (az_go_if2 az_d_eq)
theorem az_s173_234 : az_p173 C Q (234, lv, st, h) ↔ az_ma (lv 0) (fun x => az_p173 C Q (235, lv, x :: st, h)) := az_wp_iff.trans az_go_lda
theorem az_s173_235 {a : Nat} : az_p173 C Q (235, lv, .ref a :: st, h) ↔ az_mf (h.1 a) 11 4 (fun v => az_p173 C Q (238, lv, v :: st, h)) := az_wp_iff.trans az_go_gf
theorem az_s173_238 : az_p173 C Q (238, lv, st, h) ↔ az_mi (lv 1) (fun x => az_p173 C Q (239, lv, .int x :: st, h)) := az_wp_iff.trans az_go_ldi
theorem az_s173_239 {a : Nat} {i : Int32} : az_p173 C Q (239, lv, .int i :: .ref a :: st, h) ↔ az_mr (h.1 a) 0 i.toInt (fun x => az_p173 C Q (240, lv, .int x :: st, h)) := az_wp_iff.trans az_go_ial
theorem az_s173_240 : az_p173 C Q (240, lv, st, h) ↔ az_p173 C Q (249, lv, st, h) := az_wp_iff
theorem az_s173_243 : az_p173 C Q (243, lv, st, h) ↔ az_ma (lv 0) (fun x => az_p173 C Q (244, lv, x :: st, h)) := az_wp_iff.trans az_go_lda
theorem az_s173_244 {a : Nat} : az_p173 C Q (244, lv, .ref a :: st, h) ↔ az_mf (h.1 a) 11 6 (fun v => az_p173 C Q (247, lv, v :: st, h)) := az_wp_iff.trans az_go_gf
theorem az_s173_247 : az_p173 C Q (247, lv, st, h) ↔ az_mi (lv 1) (fun x => az_p173 C Q (248, lv, .int x :: st, h)) := az_wp_iff.trans az_go_ldi
theorem az_s173_248 {a : Nat} {i : Int32} : az_p173 C Q (248, lv, .int i :: .ref a :: st, h) ↔ az_mr (h.1 a) 0 i.toInt (fun x => az_p173 C Q (249, lv, .int x :: st, h)) := az_wp_iff.trans az_go_ial
theorem az_s173_249 {a : Nat} {i x : Int32} : az_p173 C Q (249, lv, .int x :: .int i :: .ref a :: st, h) ↔ az_mw' (h.1 a) i.toInt x (fun c => az_p173 C Q (250, lv, st, az_uh h a c)) := az_wp_iff.trans az_go_ias
theorem az_s173_250 : az_p173 C Q (250, lv, st, h) ↔ az_mi (lv 1) (fun x => az_p173 C Q (253, (az_s1 lv 1 (.int (x + Int32.ofInt (1)))), st, h)) := az_wp_iff.trans az_go_inc
theorem az_s173_253 : az_p173 C Q (253, lv, st, h) ↔ az_p173 C Q (208, lv, st, h) := az_wp_iff
theorem az_s173_256 : az_p173 C Q (256, lv, [], h) ↔ Q none h := az_wp_iff
def az_p174 (C : az_Cl) (Q : Option Value → az_H → Prop) : az_S → Prop := az_wp C (fun _ => none) (some .int) (az_fn az_k174) Q
theorem az_s174_0 : az_p174 C Q (0, lv, st, h) ↔ az_ma (lv 0) (fun x => az_p174 C Q (1, lv, x :: st, h)) := az_wp_iff.trans az_go_lda
theorem az_s174_1 {a : Nat} : az_p174 C Q (1, lv, .ref a :: st, h) ↔ az_mf (h.1 a) 11 0 (fun v => az_p174 C Q (4, lv, v :: st, h)) := az_wp_iff.trans az_go_gf
theorem az_s174_4 {x : Int32} : az_p174 C Q (4, lv, .int x :: st, h) ↔ (x = 0 → az_p174 C Q (30, lv, st, h)) ∧ (¬ x = 0 → az_p174 C Q (7, lv, st, h)) := az_wp_iff.trans (az_go_if1 az_d_eq)
theorem az_s174_7 : az_p174 C Q (7, lv, st, h) ↔ az_mi (lv 1) (fun x => az_p174 C Q (8, lv, .int x :: st, h)) := az_wp_iff.trans az_go_ldi
theorem az_s174_8 : az_p174 C Q (8, lv, st, h) ↔ az_p174 C Q (9, lv, .int (Int32.ofInt (1)) :: st, h) := az_wp_iff
theorem az_s174_9 : az_p174 C Q (9, lv, st, h) ↔ az_p174 C Q (12, lv, .int (Int32.ofInt (200)) :: st, h) := az_wp_iff
theorem az_s174_12 {v1 v2 v3 : Value} : az_p174 C Q (12, lv, v3 :: v2 :: v1 :: st, h) ↔ az_cat st ≤ 8 ∧ az_mc C 134 [v1, v2, v3] h (fun v h' => az_p174 C Q (15, lv, v ++ st, h')) := az_wp_iff.trans az_go_call
theorem az_s174_15 {x : Int32} : az_p174 C Q (15, lv, .int x :: st, h) ↔ (x = 0 → az_p174 C Q (30, lv, st, h)) ∧ (¬ x = 0 → az_p174 C Q (18, lv, st, h)) := az_wp_iff.trans (az_go_if1 az_d_eq)
theorem az_s174_18 : az_p174 C Q (18, lv, st, h) ↔ az_ma (lv 0) (fun x => az_p174 C Q (19, lv, x :: st, h)) := az_wp_iff.trans az_go_lda
theorem az_s174_19 {a : Nat} : az_p174 C Q (19, lv, .ref a :: st, h) ↔ az_mf (h.1 a) 11 2 (fun v => az_p174 C Q (22, lv, v :: st, h)) := az_wp_iff.trans az_go_gf
theorem az_s174_22 : az_p174 C Q (22, lv, st, h) ↔ az_mi (lv 1) (fun x => az_p174 C Q (23, lv, .int x :: st, h)) := az_wp_iff.trans az_go_ldi
theorem az_s174_23 {x y : Int32} : az_p174 C Q (23, lv, .int y :: .int x :: st, h) ↔ az_p174 C Q (24, lv, .int (x + y) :: st, h) := az_wp_iff
theorem az_s174_24 : az_p174 C Q (24, lv, st, h) ↔ az_p174 C Q (27, lv, .int (Int32.ofInt (5000)) :: st, h) := az_wp_iff
theorem az_s174_27 {x y : Int32} : az_p174 C Q (27, lv, .int y :: .int x :: st, h) ↔ (x ≤ y → az_p174 C Q (32, lv, st, h)) ∧ (¬ x ≤ y → az_p174 C Q (30, lv, st, h)) := az_wp_iff.trans (az_go_if2 az_d_eq)
theorem az_s174_30 : az_p174 C Q (30, lv, st, h) ↔ az_p174 C Q (31, lv, .int (Int32.ofInt (-1)) :: st, h) := az_wp_iff
theorem az_s174_31 {x : Int32} : az_p174 C Q (31, lv, [.int x], h) ↔ Q (some (.int x)) h := az_wp_iff
theorem az_s174_32 : az_p174 C Q (32, lv, st, h) ↔ az_p174 C Q (33, lv, .int (Int32.ofInt (0)) :: st, h) := az_wp_iff
theorem az_s174_33 {x : Int32} : az_p174 C Q (33, lv, .int x :: st, h) ↔ az_p174 C Q (34, (az_s1 lv 2 (.int x)), st, h) := az_wp_iff
theorem az_s174_34 : az_p174 C Q (34, lv, st, h) ↔ az_mi (lv 2) (fun x => az_p174 C Q (35, lv, .int x :: st, h)) := az_wp_iff.trans az_go_ldi
theorem az_s174_35 : az_p174 C Q (35, lv, st, h) ↔ az_mi (lv 1) (fun x => az_p174 C Q (36, lv, .int x :: st, h)) := az_wp_iff.trans az_go_ldi
theorem az_s174_36 {x y : Int32} : az_p174 C Q (36, lv, .int y :: .int x :: st, h) ↔ (y ≤ x → az_p174 C Q (49, lv, st, h)) ∧ (¬ y ≤ x → az_p174 C Q (39, lv, st, h)) := az_wp_iff.trans (az_go_if2 az_d_eq)
theorem az_s174_39 : az_p174 C Q (39, lv, st, h) ↔ az_ma (lv 0) (fun x => az_p174 C Q (40, lv, x :: st, h)) := az_wp_iff.trans az_go_lda
theorem az_s174_40 {a : Nat}  : az_p174 C Q (40, lv, .ref a :: st, h) ↔ az_isob (h.1 a) 11 = true ∧ az_cat st ≤ 8 ∧ az_mc C 173 [.ref a] h (fun v h' => az_p174 C Q (43, lv, v ++ st, h')) := az_wp_iff.trans (az_go_if.trans (and_congr Iff.rfl az_go_call))
theorem az_s174_43 : az_p174 C Q (43, lv, st, h) ↔ az_mi (lv 2) (fun x => az_p174 C Q (46, (az_s1 lv 2 (.int (x + Int32.ofInt (1)))), st, h)) := az_wp_iff.trans az_go_inc
theorem az_s174_46 : az_p174 C Q (46, lv, st, h) ↔ az_p174 C Q (34, lv, st, h) := az_wp_iff
theorem az_s174_49 : az_p174 C Q (49, lv, st, h) ↔ az_ma (lv 0) (fun x => az_p174 C Q (50, lv, x :: st, h)) := az_wp_iff.trans az_go_lda
theorem az_s174_50 {a : Nat} : az_p174 C Q (50, lv, .ref a :: st, h) ↔ az_mf (h.1 a) 11 2 (fun v => az_p174 C Q (53, lv, v :: st, h)) := az_wp_iff.trans az_go_gf
theorem az_s174_53 {x : Int32} : az_p174 C Q (53, lv, [.int x], h) ↔ Q (some (.int x)) h := az_wp_iff
def az_p175 (C : az_Cl) (Q : Option Value → az_H → Prop) : az_S → Prop := az_wp C (fun _ => none) (some .boolean) (az_fn az_k175) Q
theorem az_s175_0 : az_p175 C Q (0, lv, st, h) ↔ az_ma (lv 0) (fun x => az_p175 C Q (1, lv, x :: st, h)) := az_wp_iff.trans az_go_lda
theorem az_s175_1 {a : Nat} : az_p175 C Q (1, lv, .ref a :: st, h) ↔ az_mf (h.1 a) 11 0 (fun v => az_p175 C Q (4, lv, v :: st, h)) := az_wp_iff.trans az_go_gf
theorem az_s175_4 {x : Int32} : az_p175 C Q (4, lv, .int x :: st, h) ↔ (x = 0 → az_p175 C Q (16, lv, st, h)) ∧ (¬ x = 0 → az_p175 C Q (7, lv, st, h)) := az_wp_iff.trans (az_go_if1 az_d_eq)
theorem az_s175_7 : az_p175 C Q (7, lv, st, h) ↔ az_mi (lv 1) (fun x => az_p175 C Q (8, lv, .int x :: st, h)) := az_wp_iff.trans az_go_ldi
theorem az_s175_8 : az_p175 C Q (8, lv, st, h) ↔ az_p175 C Q (9, lv, .int (Int32.ofInt (0)) :: st, h) := az_wp_iff
theorem az_s175_9 : az_p175 C Q (9, lv, st, h) ↔ az_p175 C Q (10, lv, .int (Int32.ofInt (2)) :: st, h) := az_wp_iff
theorem az_s175_10 {v1 v2 v3 : Value} : az_p175 C Q (10, lv, v3 :: v2 :: v1 :: st, h) ↔ az_cat st ≤ 8 ∧ az_mc C 134 [v1, v2, v3] h (fun v h' => az_p175 C Q (13, lv, v ++ st, h')) := az_wp_iff.trans az_go_call
theorem az_s175_13 {x : Int32} : az_p175 C Q (13, lv, .int x :: st, h) ↔ (¬ x = 0 → az_p175 C Q (18, lv, st, h)) ∧ (¬ ¬ x = 0 → az_p175 C Q (16, lv, st, h)) := az_wp_iff.trans (az_go_if1 az_d_eq)
theorem az_s175_16 : az_p175 C Q (16, lv, st, h) ↔ az_p175 C Q (17, lv, .int (Int32.ofInt (0)) :: st, h) := az_wp_iff
theorem az_s175_17 {x : Int32} : az_p175 C Q (17, lv, [.int x], h) ↔ (x = 0 ∨ x = 1) ∧ Q (some (.int x)) h := az_wp_iff.trans az_go_if
theorem az_s175_18 : az_p175 C Q (18, lv, st, h) ↔ az_mi (lv 1) (fun x => az_p175 C Q (19, lv, .int x :: st, h)) := az_wp_iff.trans az_go_ldi
theorem az_s175_19 {x : Int32} : az_p175 C Q (19, lv, .int x :: st, h) ↔ (¬ x = 0 → az_p175 C Q (26, lv, st, h)) ∧ (¬ ¬ x = 0 → az_p175 C Q (22, lv, st, h)) := az_wp_iff.trans (az_go_if1 az_d_eq)
theorem az_s175_22 : az_p175 C Q (22, lv, st, h) ↔ az_ma (lv 0) (fun x => az_p175 C Q (23, lv, x :: st, h)) := az_wp_iff.trans az_go_lda
theorem az_s175_23 {a : Nat}  : az_p175 C Q (23, lv, .ref a :: st, h) ↔ az_isob (h.1 a) 11 = true ∧ az_cat st ≤ 8 ∧ az_mc C 164 [.ref a] h (fun v h' => az_p175 C Q (26, lv, v ++ st, h')) := az_wp_iff.trans (az_go_if.trans (and_congr Iff.rfl az_go_call))
theorem az_s175_26 : az_p175 C Q (26, lv, st, h) ↔ az_mi (lv 1) (fun x => az_p175 C Q (27, lv, .int x :: st, h)) := az_wp_iff.trans az_go_ldi
theorem az_s175_27 : az_p175 C Q (27, lv, st, h) ↔ az_p175 C Q (28, lv, .int (Int32.ofInt (2)) :: st, h) := az_wp_iff
theorem az_s175_28 {x y : Int32} : az_p175 C Q (28, lv, .int y :: .int x :: st, h) ↔ (¬ x = y → az_p175 C Q (36, lv, st, h)) ∧ (¬ ¬ x = y → az_p175 C Q (31, lv, st, h)) := az_wp_iff.trans (az_go_if2 az_d_eq)
theorem az_s175_31 : az_p175 C Q (31, lv, st, h) ↔ az_ma (lv 0) (fun x => az_p175 C Q (32, lv, x :: st, h)) := az_wp_iff.trans az_go_lda
theorem az_s175_32 : az_p175 C Q (32, lv, st, h) ↔ az_p175 C Q (33, lv, .int (Int32.ofInt (1)) :: st, h) := az_wp_iff
theorem az_s175_33 {a : Nat} {v : Value} : az_p175 C Q (33, lv, v :: .ref a :: st, h) ↔ az_mp (h.1 a) 11 1 2 v (fun c => az_p175 C Q (36, lv, st, az_uh h a c)) := az_wp_iff.trans az_go_pf
theorem az_s175_36 : az_p175 C Q (36, lv, st, h) ↔ az_mi (lv 1) (fun x => az_p175 C Q (37, lv, .int x :: st, h)) := az_wp_iff.trans az_go_ldi
theorem az_s175_37 : az_p175 C Q (37, lv, st, h) ↔ az_p175 C Q (38, lv, .int (Int32.ofInt (1)) :: st, h) := az_wp_iff
theorem az_s175_38 {x y : Int32} : az_p175 C Q (38, lv, .int y :: .int x :: st, h) ↔ (x = y → az_p175 C Q (43, lv, st, h)) ∧ (¬ x = y → az_p175 C Q (41, lv, st, h)) := az_wp_iff.trans (az_go_if2 az_d_eq)
theorem az_s175_41 : az_p175 C Q (41, lv, st, h) ↔ az_p175 C Q (42, lv, .int (Int32.ofInt (1)) :: st, h) := az_wp_iff
theorem az_s175_42 {x : Int32} : az_p175 C Q (42, lv, [.int x], h) ↔ (x = 0 ∨ x = 1) ∧ Q (some (.int x)) h := az_wp_iff.trans az_go_if
theorem az_s175_43 : az_p175 C Q (43, lv, st, h) ↔ az_ma (lv 0) (fun x => az_p175 C Q (44, lv, x :: st, h)) := az_wp_iff.trans az_go_lda
theorem az_s175_44 : az_p175 C Q (44, lv, st, h) ↔ az_p175 C Q (45, lv, .int (Int32.ofInt (0)) :: st, h) := az_wp_iff
theorem az_s175_45 {a : Nat} {v : Value} : az_p175 C Q (45, lv, v :: .ref a :: st, h) ↔ az_mp (h.1 a) 11 1 2 v (fun c => az_p175 C Q (48, lv, st, az_uh h a c)) := az_wp_iff.trans az_go_pf
theorem az_s175_48 : az_p175 C Q (48, lv, st, h) ↔ az_p175 C Q (49, lv, .int (Int32.ofInt (0)) :: st, h) := az_wp_iff
theorem az_s175_49 {x : Int32} : az_p175 C Q (49, lv, .int x :: st, h) ↔ az_p175 C Q (50, (az_s1 lv 2 (.int x)), st, h) := az_wp_iff
theorem az_s175_50 : az_p175 C Q (50, lv, st, h) ↔ az_mi (lv 2) (fun x => az_p175 C Q (51, lv, .int x :: st, h)) := az_wp_iff.trans az_go_ldi
theorem az_s175_51 : az_p175 C Q (51, lv, st, h) ↔ az_p175 C Q (53, lv, .int (Int32.ofInt (12)) :: st, h) := az_wp_iff
theorem az_s175_53 {x y : Int32} : az_p175 C Q (53, lv, .int y :: .int x :: st, h) ↔ (y ≤ x → az_p175 C Q (101, lv, st, h)) ∧ (¬ y ≤ x → az_p175 C Q (56, lv, st, h)) := az_wp_iff.trans (az_go_if2 az_d_eq)
theorem az_s175_56 : az_p175 C Q (56, lv, st, h) ↔ az_ma (lv 0) (fun x => az_p175 C Q (57, lv, x :: st, h)) := az_wp_iff.trans az_go_lda
theorem az_s175_57 {a : Nat} : az_p175 C Q (57, lv, .ref a :: st, h) ↔ az_mf (h.1 a) 11 7 (fun v => az_p175 C Q (60, lv, v :: st, h)) := az_wp_iff.trans az_go_gf
theorem az_s175_60 : az_p175 C Q (60, lv, st, h) ↔ az_mi (lv 2) (fun x => az_p175 C Q (61, lv, .int x :: st, h)) := az_wp_iff.trans az_go_ldi
theorem az_s175_61 {a : Nat} {i : Int32} : az_p175 C Q (61, lv, .int i :: .ref a :: st, h) ↔ az_mr (h.1 a) 1 i.toInt (fun x => az_p175 C Q (62, lv, .int x :: st, h)) := az_wp_iff.trans az_go_ial
theorem az_s175_62 {x : Int32} : az_p175 C Q (62, lv, .int x :: st, h) ↔ (x = 0 → az_p175 C Q (95, lv, st, h)) ∧ (¬ x = 0 → az_p175 C Q (65, lv, st, h)) := az_wp_iff.trans (az_go_if1 az_d_eq)
theorem az_s175_65 : az_p175 C Q (65, lv, st, h) ↔ az_ma (lv 0) (fun x => az_p175 C Q (66, lv, x :: st, h)) := az_wp_iff.trans az_go_lda
theorem az_s175_66 {a : Nat} : az_p175 C Q (66, lv, .ref a :: st, h) ↔ az_mf (h.1 a) 11 18 (fun v => az_p175 C Q (69, lv, v :: st, h)) := az_wp_iff.trans az_go_gf
theorem az_s175_69 : az_p175 C Q (69, lv, st, h) ↔ az_mi (lv 2) (fun x => az_p175 C Q (70, lv, .int x :: st, h)) := az_wp_iff.trans az_go_ldi
theorem az_s175_70 {a : Nat} {i : Int32} : az_p175 C Q (70, lv, .int i :: .ref a :: st, h) ↔ az_mr (h.1 a) 0 i.toInt (fun x => az_p175 C Q (71, lv, .int x :: st, h)) := az_wp_iff.trans az_go_ial
theorem az_s175_71 : az_p175 C Q (71, lv, st, h) ↔ az_p175 C Q (72, lv, .int (Int32.ofInt (4)) :: st, h) := az_wp_iff
theorem az_s175_72 {x y : Int32} : az_p175 C Q (72, lv, .int y :: .int x :: st, h) ↔ (¬ x = y → az_p175 C Q (95, lv, st, h)) ∧ (¬ ¬ x = y → az_p175 C Q (75, lv, st, h)) := az_wp_iff.trans (az_go_if2 az_d_eq)
theorem az_s175_75 : az_p175 C Q (75, lv, st, h) ↔ az_ma (lv 0) (fun x => az_p175 C Q (76, lv, x :: st, h)) := az_wp_iff.trans az_go_lda
theorem az_s175_76 {a : Nat} : az_p175 C Q (76, lv, .ref a :: st, h) ↔ az_mf (h.1 a) 11 18 (fun v => az_p175 C Q (79, lv, v :: st, h)) := az_wp_iff.trans az_go_gf
theorem az_s175_79 : az_p175 C Q (79, lv, st, h) ↔ az_mi (lv 2) (fun x => az_p175 C Q (80, lv, .int x :: st, h)) := az_wp_iff.trans az_go_ldi
theorem az_s175_80 : az_p175 C Q (80, lv, st, h) ↔ az_ma (lv 0) (fun x => az_p175 C Q (81, lv, x :: st, h)) := az_wp_iff.trans az_go_lda
theorem az_s175_81 {a : Nat} : az_p175 C Q (81, lv, .ref a :: st, h) ↔ az_mf (h.1 a) 11 20 (fun v => az_p175 C Q (84, lv, v :: st, h)) := az_wp_iff.trans az_go_gf
theorem az_s175_84 : az_p175 C Q (84, lv, st, h) ↔ az_mi (lv 2) (fun x => az_p175 C Q (85, lv, .int x :: st, h)) := az_wp_iff.trans az_go_ldi
theorem az_s175_85 {a : Nat} {i : Int32} : az_p175 C Q (85, lv, .int i :: .ref a :: st, h) ↔ az_mr (h.1 a) 1 i.toInt (fun x => az_p175 C Q (86, lv, .int x :: st, h)) := az_wp_iff.trans az_go_ial
theorem az_s175_86 {x : Int32} : az_p175 C Q (86, lv, .int x :: st, h) ↔ (x = 0 → az_p175 C Q (93, lv, st, h)) ∧ (¬ x = 0 → az_p175 C Q (89, lv, st, h)) := az_wp_iff.trans (az_go_if1 az_d_eq)
theorem az_s175_89 : az_p175 C Q (89, lv, st, h) ↔ az_p175 C Q (90, lv, .int (Int32.ofInt (2)) :: st, h) := az_wp_iff
theorem az_s175_90 : az_p175 C Q (90, lv, st, h) ↔ az_p175 C Q (94, lv, st, h) := az_wp_iff
theorem az_s175_93 : az_p175 C Q (93, lv, st, h) ↔ az_p175 C Q (94, lv, .int (Int32.ofInt (0)) :: st, h) := az_wp_iff
theorem az_s175_94 {a : Nat} {i x : Int32} : az_p175 C Q (94, lv, .int x :: .int i :: .ref a :: st, h) ↔ az_mw' (h.1 a) i.toInt x (fun c => az_p175 C Q (95, lv, st, az_uh h a c)) := az_wp_iff.trans az_go_ias
theorem az_s175_95 : az_p175 C Q (95, lv, st, h) ↔ az_mi (lv 2) (fun x => az_p175 C Q (98, (az_s1 lv 2 (.int (x + Int32.ofInt (1)))), st, h)) := az_wp_iff.trans az_go_inc
theorem az_s175_98 : az_p175 C Q (98, lv, st, h) ↔ az_p175 C Q (50, lv, st, h) := az_wp_iff
theorem az_s175_101 : az_p175 C Q (101, lv, st, h) ↔ az_p175 C Q (102, lv, .int (Int32.ofInt (1)) :: st, h) := az_wp_iff
theorem az_s175_102 {x : Int32} : az_p175 C Q (102, lv, [.int x], h) ↔ (x = 0 ∨ x = 1) ∧ Q (some (.int x)) h := az_wp_iff.trans az_go_if
def az_p176 (C : az_Cl) (Q : Option Value → az_H → Prop) : az_S → Prop := az_wp C (fun _ => none) (some .boolean) (az_fn az_k176) Q
theorem az_s176_0 : az_p176 C Q (0, lv, st, h) ↔ az_ma (lv 0) (fun x => az_p176 C Q (1, lv, x :: st, h)) := az_wp_iff.trans az_go_lda
theorem az_s176_1 {a : Nat} : az_p176 C Q (1, lv, .ref a :: st, h) ↔ az_mf (h.1 a) 11 0 (fun v => az_p176 C Q (4, lv, v :: st, h)) := az_wp_iff.trans az_go_gf
theorem az_s176_4 {x : Int32} : az_p176 C Q (4, lv, .int x :: st, h) ↔ (x = 0 → az_p176 C Q (39, lv, st, h)) ∧ (¬ x = 0 → az_p176 C Q (7, lv, st, h)) := az_wp_iff.trans (az_go_if1 az_d_eq)
theorem az_s176_7 : az_p176 C Q (7, lv, st, h) ↔ az_ma (lv 0) (fun x => az_p176 C Q (8, lv, x :: st, h)) := az_wp_iff.trans az_go_lda
theorem az_s176_8 : az_p176 C Q (8, lv, st, h) ↔ az_mi (lv 1) (fun x => az_p176 C Q (9, lv, .int x :: st, h)) := az_wp_iff.trans az_go_ldi
theorem az_s176_9 {a : Nat} {v1 : Value} : az_p176 C Q (9, lv, v1 :: .ref a :: st, h) ↔ az_isob (h.1 a) 11 = true ∧ az_cat st ≤ 8 ∧ az_mc C 136 [.ref a, v1] h (fun v h' => az_p176 C Q (12, lv, v ++ st, h')) := az_wp_iff.trans (az_go_if.trans (and_congr Iff.rfl az_go_call))
theorem az_s176_12 {x : Int32} : az_p176 C Q (12, lv, .int x :: st, h) ↔ (x = 0 → az_p176 C Q (39, lv, st, h)) ∧ (¬ x = 0 → az_p176 C Q (15, lv, st, h)) := az_wp_iff.trans (az_go_if1 az_d_eq)
theorem az_s176_15 : az_p176 C Q (15, lv, st, h) ↔ az_mi (lv 2) (fun x => az_p176 C Q (16, lv, .int x :: st, h)) := az_wp_iff.trans az_go_ldi
theorem az_s176_16 : az_p176 C Q (16, lv, st, h) ↔ az_p176 C Q (17, lv, .int (Int32.ofInt (0)) :: st, h) := az_wp_iff
theorem az_s176_17 : az_p176 C Q (17, lv, st, h) ↔ az_ma (lv 0) (fun x => az_p176 C Q (18, lv, x :: st, h)) := az_wp_iff.trans az_go_lda
theorem az_s176_18 {a : Nat} : az_p176 C Q (18, lv, .ref a :: st, h) ↔ az_mf (h.1 a) 11 13 (fun v => az_p176 C Q (21, lv, v :: st, h)) := az_wp_iff.trans az_go_gf
theorem az_s176_21 : az_p176 C Q (21, lv, st, h) ↔ az_mi (lv 1) (fun x => az_p176 C Q (22, lv, .int x :: st, h)) := az_wp_iff.trans az_go_ldi
theorem az_s176_22 {a : Nat} {i : Int32} : az_p176 C Q (22, lv, .int i :: .ref a :: st, h) ↔ az_mr (h.1 a) 0 i.toInt (fun x => az_p176 C Q (23, lv, .int x :: st, h)) := az_wp_iff.trans az_go_ial
theorem az_s176_23 : az_p176 C Q (23, lv, st, h) ↔ az_p176 C Q (24, lv, .int (Int32.ofInt (1)) :: st, h) := az_wp_iff
theorem az_s176_24 {x y : Int32} : az_p176 C Q (24, lv, .int y :: .int x :: st, h) ↔ az_p176 C Q (25, lv, .int (x - y) :: st, h) := az_wp_iff
theorem az_s176_25 {v1 v2 v3 : Value} : az_p176 C Q (25, lv, v3 :: v2 :: v1 :: st, h) ↔ az_cat st ≤ 8 ∧ az_mc C 134 [v1, v2, v3] h (fun v h' => az_p176 C Q (28, lv, v ++ st, h')) := az_wp_iff.trans az_go_call
theorem az_s176_28 {x : Int32} : az_p176 C Q (28, lv, .int x :: st, h) ↔ (x = 0 → az_p176 C Q (39, lv, st, h)) ∧ (¬ x = 0 → az_p176 C Q (31, lv, st, h)) := az_wp_iff.trans (az_go_if1 az_d_eq)
theorem az_s176_31 : az_p176 C Q (31, lv, st, h) ↔ az_ma (lv 0) (fun x => az_p176 C Q (32, lv, x :: st, h)) := az_wp_iff.trans az_go_lda
theorem az_s176_32 : az_p176 C Q (32, lv, st, h) ↔ az_mi (lv 3) (fun x => az_p176 C Q (33, lv, .int x :: st, h)) := az_wp_iff.trans az_go_ldi
theorem az_s176_33 {a : Nat} {v1 : Value} : az_p176 C Q (33, lv, v1 :: .ref a :: st, h) ↔ az_isob (h.1 a) 11 = true ∧ az_cat st ≤ 8 ∧ az_mc C 135 [.ref a, v1] h (fun v h' => az_p176 C Q (36, lv, v ++ st, h')) := az_wp_iff.trans (az_go_if.trans (and_congr Iff.rfl az_go_call))
theorem az_s176_36 {x : Int32} : az_p176 C Q (36, lv, .int x :: st, h) ↔ (¬ x = 0 → az_p176 C Q (41, lv, st, h)) ∧ (¬ ¬ x = 0 → az_p176 C Q (39, lv, st, h)) := az_wp_iff.trans (az_go_if1 az_d_eq)
theorem az_s176_39 : az_p176 C Q (39, lv, st, h) ↔ az_p176 C Q (40, lv, .int (Int32.ofInt (0)) :: st, h) := az_wp_iff
theorem az_s176_40 {x : Int32} : az_p176 C Q (40, lv, [.int x], h) ↔ (x = 0 ∨ x = 1) ∧ Q (some (.int x)) h := az_wp_iff.trans az_go_if
theorem az_s176_41 : az_p176 C Q (41, lv, st, h) ↔ az_ma (lv 0) (fun x => az_p176 C Q (42, lv, x :: st, h)) := az_wp_iff.trans az_go_lda
theorem az_s176_42 {a : Nat} : az_p176 C Q (42, lv, .ref a :: st, h) ↔ az_mf (h.1 a) 11 14 (fun v => az_p176 C Q (45, lv, v :: st, h)) := az_wp_iff.trans az_go_gf
theorem az_s176_45 : az_p176 C Q (45, lv, st, h) ↔ az_p176 C Q (46, lv, .int (Int32.ofInt (3)) :: st, h) := az_wp_iff
theorem az_s176_46 : az_p176 C Q (46, lv, st, h) ↔ az_mi (lv 1) (fun x => az_p176 C Q (47, lv, .int x :: st, h)) := az_wp_iff.trans az_go_ldi
theorem az_s176_47 {x y : Int32} : az_p176 C Q (47, lv, .int y :: .int x :: st, h) ↔ az_p176 C Q (48, lv, .int (x * y) :: st, h) := az_wp_iff
theorem az_s176_48 : az_p176 C Q (48, lv, st, h) ↔ az_mi (lv 2) (fun x => az_p176 C Q (49, lv, .int x :: st, h)) := az_wp_iff.trans az_go_ldi
theorem az_s176_49 {x y : Int32} : az_p176 C Q (49, lv, .int y :: .int x :: st, h) ↔ az_p176 C Q (50, lv, .int (x + y) :: st, h) := az_wp_iff
theorem az_s176_50 : az_p176 C Q (50, lv, st, h) ↔ az_mi (lv 3) (fun x => az_p176 C Q (51, lv, .int x :: st, h)) := az_wp_iff.trans az_go_ldi
theorem az_s176_51 {a : Nat} {i x : Int32} : az_p176 C Q (51, lv, .int x :: .int i :: .ref a :: st, h) ↔ az_mw' (h.1 a) i.toInt x (fun c => az_p176 C Q (52, lv, st, az_uh h a c)) := az_wp_iff.trans az_go_ias
theorem az_s176_52 : az_p176 C Q (52, lv, st, h) ↔ az_p176 C Q (53, lv, .int (Int32.ofInt (1)) :: st, h) := az_wp_iff
theorem az_s176_53 {x : Int32} : az_p176 C Q (53, lv, [.int x], h) ↔ (x = 0 ∨ x = 1) ∧ Q (some (.int x)) h := az_wp_iff.trans az_go_if
def az_p177 (C : az_Cl) (Q : Option Value → az_H → Prop) : az_S → Prop := az_wp C (fun _ => none) (some .long) (az_fn az_k177) Q
theorem az_s177_0 : az_p177 C Q (0, lv, st, h) ↔ az_p177 C Q (1, lv, .long (Int64.ofInt (0)) :: st, h) := az_wp_iff
theorem az_s177_1 {x : Int64} : az_p177 C Q (1, lv, .long x :: st, h) ↔ az_p177 C Q (2, (az_s2 lv 2 (.long x)), st, h) := az_wp_iff
theorem az_s177_2 : az_p177 C Q (2, lv, st, h) ↔ az_ma (lv 0) (fun x => az_p177 C Q (3, lv, x :: st, h)) := az_wp_iff.trans az_go_lda
theorem az_s177_3 {a : Nat} : az_p177 C Q (3, lv, .ref a :: st, h) ↔ az_mf (h.1 a) 11 23 (fun v => az_p177 C Q (6, lv, v :: st, h)) := az_wp_iff.trans az_go_gf
theorem az_s177_6 : az_p177 C Q (6, lv, st, h) ↔ az_mi (lv 1) (fun x => az_p177 C Q (7, lv, .int x :: st, h)) := az_wp_iff.trans az_go_ldi
theorem az_s177_7 {a : Nat} {i : Int32} : az_p177 C Q (7, lv, .int i :: .ref a :: st, h) ↔ az_mr (h.1 a) 0 i.toInt (fun x => az_p177 C Q (8, lv, .int x :: st, h)) := az_wp_iff.trans az_go_ial
theorem az_s177_8 {x : Int32} : az_p177 C Q (8, lv, .int x :: st, h) ↔ (x ≤ 0 → az_p177 C Q (48, lv, st, h)) ∧ (¬ x ≤ 0 → az_p177 C Q (11, lv, st, h)) := az_wp_iff.trans (az_go_if1 az_d_eq)
theorem az_s177_11 : az_p177 C Q (11, lv, st, h) ↔ az_p177 C Q (12, lv, .int (Int32.ofInt (0)) :: st, h) := az_wp_iff
theorem az_s177_12 {x : Int32} : az_p177 C Q (12, lv, .int x :: st, h) ↔ az_p177 C Q (14, (az_s1 lv 4 (.int x)), st, h) := az_wp_iff
theorem az_s177_14 : az_p177 C Q (14, lv, st, h) ↔ az_mi (lv 4) (fun x => az_p177 C Q (16, lv, .int x :: st, h)) := az_wp_iff.trans az_go_ldi
theorem az_s177_16 : az_p177 C Q (16, lv, st, h) ↔ az_ma (lv 0) (fun x => az_p177 C Q (17, lv, x :: st, h)) := az_wp_iff.trans az_go_lda
theorem az_s177_17 {a : Nat} : az_p177 C Q (17, lv, .ref a :: st, h) ↔ az_mf (h.1 a) 11 23 (fun v => az_p177 C Q (20, lv, v :: st, h)) := az_wp_iff.trans az_go_gf
theorem az_s177_20 : az_p177 C Q (20, lv, st, h) ↔ az_mi (lv 1) (fun x => az_p177 C Q (21, lv, .int x :: st, h)) := az_wp_iff.trans az_go_ldi
theorem az_s177_21 {a : Nat} {i : Int32} : az_p177 C Q (21, lv, .int i :: .ref a :: st, h) ↔ az_mr (h.1 a) 0 i.toInt (fun x => az_p177 C Q (22, lv, .int x :: st, h)) := az_wp_iff.trans az_go_ial
theorem az_s177_22 {x y : Int32} : az_p177 C Q (22, lv, .int y :: .int x :: st, h) ↔ (y ≤ x → az_p177 C Q (45, lv, st, h)) ∧ (¬ y ≤ x → az_p177 C Q (25, lv, st, h)) := az_wp_iff.trans (az_go_if2 az_d_eq)
theorem az_s177_25 : az_p177 C Q (25, lv, st, h) ↔ az_ml (lv 2) (fun x => az_p177 C Q (26, lv, .long x :: st, h)) := az_wp_iff.trans az_go_ldl
theorem az_s177_26 : az_p177 C Q (26, lv, st, h) ↔ az_ma (lv 0) (fun x => az_p177 C Q (27, lv, x :: st, h)) := az_wp_iff.trans az_go_lda
theorem az_s177_27 {a : Nat} : az_p177 C Q (27, lv, .ref a :: st, h) ↔ az_mf (h.1 a) 11 24 (fun v => az_p177 C Q (30, lv, v :: st, h)) := az_wp_iff.trans az_go_gf
theorem az_s177_30 : az_p177 C Q (30, lv, st, h) ↔ az_p177 C Q (31, lv, .int (Int32.ofInt (3)) :: st, h) := az_wp_iff
theorem az_s177_31 : az_p177 C Q (31, lv, st, h) ↔ az_mi (lv 1) (fun x => az_p177 C Q (32, lv, .int x :: st, h)) := az_wp_iff.trans az_go_ldi
theorem az_s177_32 {x y : Int32} : az_p177 C Q (32, lv, .int y :: .int x :: st, h) ↔ az_p177 C Q (33, lv, .int (x * y) :: st, h) := az_wp_iff
theorem az_s177_33 : az_p177 C Q (33, lv, st, h) ↔ az_mi (lv 4) (fun x => az_p177 C Q (35, lv, .int x :: st, h)) := az_wp_iff.trans az_go_ldi
theorem az_s177_35 {x y : Int32} : az_p177 C Q (35, lv, .int y :: .int x :: st, h) ↔ az_p177 C Q (36, lv, .int (x + y) :: st, h) := az_wp_iff
theorem az_s177_36 {a : Nat} {i : Int32} : az_p177 C Q (36, lv, .int i :: .ref a :: st, h) ↔ az_mrl (h.1 a) i.toInt (fun x => az_p177 C Q (37, lv, .long x :: st, h)) := az_wp_iff.trans az_go_lal
theorem az_s177_37 {x y : Int64} : az_p177 C Q (37, lv, .long y :: .long x :: st, h) ↔ az_p177 C Q (38, lv, .long (x + y) :: st, h) := az_wp_iff
theorem az_s177_38 {x : Int64} : az_p177 C Q (38, lv, .long x :: st, h) ↔ az_p177 C Q (39, (az_s2 lv 2 (.long x)), st, h) := az_wp_iff
theorem az_s177_39 : az_p177 C Q (39, lv, st, h) ↔ az_mi (lv 4) (fun x => az_p177 C Q (42, (az_s1 lv 4 (.int (x + Int32.ofInt (1)))), st, h)) := az_wp_iff.trans az_go_inc
theorem az_s177_42 : az_p177 C Q (42, lv, st, h) ↔ az_p177 C Q (14, lv, st, h) := az_wp_iff
theorem az_s177_45 : az_p177 C Q (45, lv, st, h) ↔ az_p177 C Q (104, lv, st, h) := az_wp_iff
theorem az_s177_48 : az_p177 C Q (48, lv, st, h) ↔ az_ml (lv 2) (fun x => az_p177 C Q (49, lv, .long x :: st, h)) := az_wp_iff.trans az_go_ldl
theorem az_s177_49 : az_p177 C Q (49, lv, st, h) ↔ az_ma (lv 0) (fun x => az_p177 C Q (50, lv, x :: st, h)) := az_wp_iff.trans az_go_lda
theorem az_s177_50 {a : Nat} : az_p177 C Q (50, lv, .ref a :: st, h) ↔ az_mf (h.1 a) 11 21 (fun v => az_p177 C Q (53, lv, v :: st, h)) := az_wp_iff.trans az_go_gf
theorem az_s177_53 : az_p177 C Q (53, lv, st, h) ↔ az_mi (lv 1) (fun x => az_p177 C Q (54, lv, .int x :: st, h)) := az_wp_iff.trans az_go_ldi
theorem az_s177_54 {a : Nat} {i : Int32} : az_p177 C Q (54, lv, .int i :: .ref a :: st, h) ↔ az_mr (h.1 a) 0 i.toInt (fun x => az_p177 C Q (55, lv, .int x :: st, h)) := az_wp_iff.trans az_go_ial
theorem az_s177_55 : az_p177 C Q (55, lv, st, h) ↔ az_p177 C Q (56, lv, .int (Int32.ofInt (-1)) :: st, h) := az_wp_iff
theorem az_s177_56 {x y : Int32} : az_p177 C Q (56, lv, .int y :: .int x :: st, h) ↔ (¬ x = y → az_p177 C Q (63, lv, st, h)) ∧ (¬ ¬ x = y → az_p177 C Q (59, lv, st, h)) := az_wp_iff.trans (az_go_if2 az_d_eq)
theorem az_s177_59 : az_p177 C Q (59, lv, st, h) ↔ az_p177 C Q (60, lv, .long (Int64.ofInt (0)) :: st, h) := az_wp_iff
theorem az_s177_60 : az_p177 C Q (60, lv, st, h) ↔ az_p177 C Q (74, lv, st, h) := az_wp_iff
theorem az_s177_63 : az_p177 C Q (63, lv, st, h) ↔ az_ma (lv 0) (fun x => az_p177 C Q (64, lv, x :: st, h)) := az_wp_iff.trans az_go_lda
theorem az_s177_64 {a : Nat} : az_p177 C Q (64, lv, .ref a :: st, h) ↔ az_mf (h.1 a) 11 34 (fun v => az_p177 C Q (67, lv, v :: st, h)) := az_wp_iff.trans az_go_gf
theorem az_s177_67 : az_p177 C Q (67, lv, st, h) ↔ az_ma (lv 0) (fun x => az_p177 C Q (68, lv, x :: st, h)) := az_wp_iff.trans az_go_lda
theorem az_s177_68 {a : Nat} : az_p177 C Q (68, lv, .ref a :: st, h) ↔ az_mf (h.1 a) 11 21 (fun v => az_p177 C Q (71, lv, v :: st, h)) := az_wp_iff.trans az_go_gf
theorem az_s177_71 : az_p177 C Q (71, lv, st, h) ↔ az_mi (lv 1) (fun x => az_p177 C Q (72, lv, .int x :: st, h)) := az_wp_iff.trans az_go_ldi
theorem az_s177_72 {a : Nat} {i : Int32} : az_p177 C Q (72, lv, .int i :: .ref a :: st, h) ↔ az_mr (h.1 a) 0 i.toInt (fun x => az_p177 C Q (73, lv, .int x :: st, h)) := az_wp_iff.trans az_go_ial
theorem az_s177_73 {a : Nat} {i : Int32} : az_p177 C Q (73, lv, .int i :: .ref a :: st, h) ↔ az_mrl (h.1 a) i.toInt (fun x => az_p177 C Q (74, lv, .long x :: st, h)) := az_wp_iff.trans az_go_lal
theorem az_s177_74 {x y : Int64} : az_p177 C Q (74, lv, .long y :: .long x :: st, h) ↔ az_p177 C Q (75, lv, .long (x + y) :: st, h) := az_wp_iff
theorem az_s177_75 {x : Int64} : az_p177 C Q (75, lv, .long x :: st, h) ↔ az_p177 C Q (76, (az_s2 lv 2 (.long x)), st, h) := az_wp_iff
theorem az_s177_76 : az_p177 C Q (76, lv, st, h) ↔ az_ml (lv 2) (fun x => az_p177 C Q (77, lv, .long x :: st, h)) := az_wp_iff.trans az_go_ldl
theorem az_s177_77 : az_p177 C Q (77, lv, st, h) ↔ az_ma (lv 0) (fun x => az_p177 C Q (78, lv, x :: st, h)) := az_wp_iff.trans az_go_lda
theorem az_s177_78 {a : Nat} : az_p177 C Q (78, lv, .ref a :: st, h) ↔ az_mf (h.1 a) 11 22 (fun v => az_p177 C Q (81, lv, v :: st, h)) := az_wp_iff.trans az_go_gf
theorem az_s177_81 : az_p177 C Q (81, lv, st, h) ↔ az_mi (lv 1) (fun x => az_p177 C Q (82, lv, .int x :: st, h)) := az_wp_iff.trans az_go_ldi
theorem az_s177_82 {a : Nat} {i : Int32} : az_p177 C Q (82, lv, .int i :: .ref a :: st, h) ↔ az_mr (h.1 a) 0 i.toInt (fun x => az_p177 C Q (83, lv, .int x :: st, h)) := az_wp_iff.trans az_go_ial
theorem az_s177_83 : az_p177 C Q (83, lv, st, h) ↔ az_p177 C Q (84, lv, .int (Int32.ofInt (-1)) :: st, h) := az_wp_iff
theorem az_s177_84 {x y : Int32} : az_p177 C Q (84, lv, .int y :: .int x :: st, h) ↔ (¬ x = y → az_p177 C Q (91, lv, st, h)) ∧ (¬ ¬ x = y → az_p177 C Q (87, lv, st, h)) := az_wp_iff.trans (az_go_if2 az_d_eq)
theorem az_s177_87 : az_p177 C Q (87, lv, st, h) ↔ az_p177 C Q (88, lv, .long (Int64.ofInt (0)) :: st, h) := az_wp_iff
theorem az_s177_88 : az_p177 C Q (88, lv, st, h) ↔ az_p177 C Q (102, lv, st, h) := az_wp_iff
theorem az_s177_91 : az_p177 C Q (91, lv, st, h) ↔ az_ma (lv 0) (fun x => az_p177 C Q (92, lv, x :: st, h)) := az_wp_iff.trans az_go_lda
theorem az_s177_92 {a : Nat} : az_p177 C Q (92, lv, .ref a :: st, h) ↔ az_mf (h.1 a) 11 34 (fun v => az_p177 C Q (95, lv, v :: st, h)) := az_wp_iff.trans az_go_gf
theorem az_s177_95 : az_p177 C Q (95, lv, st, h) ↔ az_ma (lv 0) (fun x => az_p177 C Q (96, lv, x :: st, h)) := az_wp_iff.trans az_go_lda
theorem az_s177_96 {a : Nat} : az_p177 C Q (96, lv, .ref a :: st, h) ↔ az_mf (h.1 a) 11 22 (fun v => az_p177 C Q (99, lv, v :: st, h)) := az_wp_iff.trans az_go_gf
theorem az_s177_99 : az_p177 C Q (99, lv, st, h) ↔ az_mi (lv 1) (fun x => az_p177 C Q (100, lv, .int x :: st, h)) := az_wp_iff.trans az_go_ldi
theorem az_s177_100 {a : Nat} {i : Int32} : az_p177 C Q (100, lv, .int i :: .ref a :: st, h) ↔ az_mr (h.1 a) 0 i.toInt (fun x => az_p177 C Q (101, lv, .int x :: st, h)) := az_wp_iff.trans az_go_ial
theorem az_s177_101 {a : Nat} {i : Int32} : az_p177 C Q (101, lv, .int i :: .ref a :: st, h) ↔ az_mrl (h.1 a) i.toInt (fun x => az_p177 C Q (102, lv, .long x :: st, h)) := az_wp_iff.trans az_go_lal
theorem az_s177_102 {x y : Int64} : az_p177 C Q (102, lv, .long y :: .long x :: st, h) ↔ az_p177 C Q (103, lv, .long (x + y) :: st, h) := az_wp_iff
theorem az_s177_103 {x : Int64} : az_p177 C Q (103, lv, .long x :: st, h) ↔ az_p177 C Q (104, (az_s2 lv 2 (.long x)), st, h) := az_wp_iff
theorem az_s177_104 : az_p177 C Q (104, lv, st, h) ↔ az_p177 C Q (105, lv, .int (Int32.ofInt (0)) :: st, h) := az_wp_iff
theorem az_s177_105 {x : Int32} : az_p177 C Q (105, lv, .int x :: st, h) ↔ az_p177 C Q (107, (az_s1 lv 4 (.int x)), st, h) := az_wp_iff
theorem az_s177_107 : az_p177 C Q (107, lv, st, h) ↔ az_mi (lv 4) (fun x => az_p177 C Q (109, lv, .int x :: st, h)) := az_wp_iff.trans az_go_ldi
theorem az_s177_109 : az_p177 C Q (109, lv, st, h) ↔ az_p177 C Q (111, lv, .int (Int32.ofInt (10)) :: st, h) := az_wp_iff
theorem az_s177_111 {x y : Int32} : az_p177 C Q (111, lv, .int y :: .int x :: st, h) ↔ (y ≤ x → az_p177 C Q (135, lv, st, h)) ∧ (¬ y ≤ x → az_p177 C Q (114, lv, st, h)) := az_wp_iff.trans (az_go_if2 az_d_eq)
theorem az_s177_114 : az_p177 C Q (114, lv, st, h) ↔ az_ml (lv 2) (fun x => az_p177 C Q (115, lv, .long x :: st, h)) := az_wp_iff.trans az_go_ldl
theorem az_s177_115 : az_p177 C Q (115, lv, st, h) ↔ az_ma (lv 0) (fun x => az_p177 C Q (116, lv, x :: st, h)) := az_wp_iff.trans az_go_lda
theorem az_s177_116 {a : Nat} : az_p177 C Q (116, lv, .ref a :: st, h) ↔ az_mf (h.1 a) 11 27 (fun v => az_p177 C Q (119, lv, v :: st, h)) := az_wp_iff.trans az_go_gf
theorem az_s177_119 : az_p177 C Q (119, lv, st, h) ↔ az_p177 C Q (121, lv, .int (Int32.ofInt (10)) :: st, h) := az_wp_iff
theorem az_s177_121 : az_p177 C Q (121, lv, st, h) ↔ az_mi (lv 1) (fun x => az_p177 C Q (122, lv, .int x :: st, h)) := az_wp_iff.trans az_go_ldi
theorem az_s177_122 {x y : Int32} : az_p177 C Q (122, lv, .int y :: .int x :: st, h) ↔ az_p177 C Q (123, lv, .int (x * y) :: st, h) := az_wp_iff
theorem az_s177_123 : az_p177 C Q (123, lv, st, h) ↔ az_mi (lv 4) (fun x => az_p177 C Q (125, lv, .int x :: st, h)) := az_wp_iff.trans az_go_ldi
theorem az_s177_125 {x y : Int32} : az_p177 C Q (125, lv, .int y :: .int x :: st, h) ↔ az_p177 C Q (126, lv, .int (x + y) :: st, h) := az_wp_iff
theorem az_s177_126 {a : Nat} {i : Int32} : az_p177 C Q (126, lv, .int i :: .ref a :: st, h) ↔ az_mrl (h.1 a) i.toInt (fun x => az_p177 C Q (127, lv, .long x :: st, h)) := az_wp_iff.trans az_go_lal
theorem az_s177_127 {x y : Int64} : az_p177 C Q (127, lv, .long y :: .long x :: st, h) ↔ az_p177 C Q (128, lv, .long (x + y) :: st, h) := az_wp_iff
theorem az_s177_128 {x : Int64} : az_p177 C Q (128, lv, .long x :: st, h) ↔ az_p177 C Q (129, (az_s2 lv 2 (.long x)), st, h) := az_wp_iff
theorem az_s177_129 : az_p177 C Q (129, lv, st, h) ↔ az_mi (lv 4) (fun x => az_p177 C Q (132, (az_s1 lv 4 (.int (x + Int32.ofInt (1)))), st, h)) := az_wp_iff.trans az_go_inc
theorem az_s177_132 : az_p177 C Q (132, lv, st, h) ↔ az_p177 C Q (107, lv, st, h) := az_wp_iff
theorem az_s177_135 : az_p177 C Q (135, lv, st, h) ↔ az_ml (lv 2) (fun x => az_p177 C Q (136, lv, .long x :: st, h)) := az_wp_iff.trans az_go_ldl
theorem az_s177_136 {x : Int64} : az_p177 C Q (136, lv, [.long x], h) ↔ Q (some (.long x)) h := az_wp_iff
def az_p178 (C : az_Cl) (Q : Option Value → az_H → Prop) : az_S → Prop := az_wp C (fun _ => none) (some .int) (az_fn az_k178) Q
theorem az_s178_0 : az_p178 C Q (0, lv, st, h) ↔ az_ma (lv 0) (fun x => az_p178 C Q (1, lv, x :: st, h)) := az_wp_iff.trans az_go_lda
theorem az_s178_1 : az_p178 C Q (1, lv, st, h) ↔ az_mi (lv 1) (fun x => az_p178 C Q (2, lv, .int x :: st, h)) := az_wp_iff.trans az_go_ldi
theorem az_s178_2 {a : Nat} {v1 : Value} : az_p178 C Q (2, lv, v1 :: .ref a :: st, h) ↔ az_isob (h.1 a) 11 = true ∧ az_cat st ≤ 8 ∧ az_mc C 136 [.ref a, v1] h (fun v h' => az_p178 C Q (5, lv, v ++ st, h')) := az_wp_iff.trans (az_go_if.trans (and_congr Iff.rfl az_go_call))
theorem az_s178_5 {x : Int32} : az_p178 C Q (5, lv, .int x :: st, h) ↔ (¬ x = 0 → az_p178 C Q (10, lv, st, h)) ∧ (¬ ¬ x = 0 → az_p178 C Q (8, lv, st, h)) := az_wp_iff.trans (az_go_if1 az_d_eq)
theorem az_s178_8 : az_p178 C Q (8, lv, st, h) ↔ az_p178 C Q (9, lv, .int (Int32.ofInt (-1)) :: st, h) := az_wp_iff
theorem az_s178_9 {x : Int32} : az_p178 C Q (9, lv, [.int x], h) ↔ Q (some (.int x)) h := az_wp_iff
theorem az_s178_10 : az_p178 C Q (10, lv, st, h) ↔ az_mi (lv 2) (fun x => az_p178 C Q (11, lv, .int x :: st, h)) := az_wp_iff.trans az_go_ldi
theorem az_s178_11 {x : Int32} : az_p178 C Q (11, lv, .int x :: st, h) ↔ (x.toInt = 0 → az_p178 C Q (64, lv, st, h)) ∧ (¬ x.toInt = 0 → (x.toInt = 1 → az_p178 C Q (71, lv, st, h)) ∧ (¬ x.toInt = 1 → (x.toInt = 2 → az_p178 C Q (102, lv, st, h)) ∧ (¬ x.toInt = 2 → (x.toInt = 3 → az_p178 C Q (109, lv, st, h)) ∧ (¬ x.toInt = 3 → (x.toInt = 4 → az_p178 C Q (116, lv, st, h)) ∧ (¬ x.toInt = 4 → (x.toInt = 5 → az_p178 C Q (123, lv, st, h)) ∧ (¬ x.toInt = 5 → (x.toInt = 6 → az_p178 C Q (130, lv, st, h)) ∧ (¬ x.toInt = 6 → (x.toInt = 7 → az_p178 C Q (137, lv, st, h)) ∧ (¬ x.toInt = 7 → (x.toInt = 8 → az_p178 C Q (144, lv, st, h)) ∧ (¬ x.toInt = 8 → (x.toInt = 9 → az_p178 C Q (151, lv, st, h)) ∧ (¬ x.toInt = 9 → az_p178 C Q (173, lv, st, h))))))))))) := az_wp_iff.trans (az_sel_iff (K := fun t => az_p178 C Q (t, lv, st, h)) _ _ _)
theorem az_s178_64 : az_p178 C Q (64, lv, st, h) ↔ az_ma (lv 0) (fun x => az_p178 C Q (65, lv, x :: st, h)) := az_wp_iff.trans az_go_lda
theorem az_s178_65 {a : Nat} : az_p178 C Q (65, lv, .ref a :: st, h) ↔ az_mf (h.1 a) 11 18 (fun v => az_p178 C Q (68, lv, v :: st, h)) := az_wp_iff.trans az_go_gf
theorem az_s178_68 : az_p178 C Q (68, lv, st, h) ↔ az_mi (lv 1) (fun x => az_p178 C Q (69, lv, .int x :: st, h)) := az_wp_iff.trans az_go_ldi
theorem az_s178_69 {a : Nat} {i : Int32} : az_p178 C Q (69, lv, .int i :: .ref a :: st, h) ↔ az_mr (h.1 a) 0 i.toInt (fun x => az_p178 C Q (70, lv, .int x :: st, h)) := az_wp_iff.trans az_go_ial
theorem az_s178_70 {x : Int32} : az_p178 C Q (70, lv, [.int x], h) ↔ Q (some (.int x)) h := az_wp_iff
theorem az_s178_71 : az_p178 C Q (71, lv, st, h) ↔ az_ma (lv 0) (fun x => az_p178 C Q (72, lv, x :: st, h)) := az_wp_iff.trans az_go_lda
theorem az_s178_72 {a : Nat} : az_p178 C Q (72, lv, .ref a :: st, h) ↔ az_mf (h.1 a) 11 18 (fun v => az_p178 C Q (75, lv, v :: st, h)) := az_wp_iff.trans az_go_gf
theorem az_s178_75 : az_p178 C Q (75, lv, st, h) ↔ az_mi (lv 1) (fun x => az_p178 C Q (76, lv, .int x :: st, h)) := az_wp_iff.trans az_go_ldi
theorem az_s178_76 {a : Nat} {i : Int32} : az_p178 C Q (76, lv, .int i :: .ref a :: st, h) ↔ az_mr (h.1 a) 0 i.toInt (fun x => az_p178 C Q (77, lv, .int x :: st, h)) := az_wp_iff.trans az_go_ial
theorem az_s178_77 : az_p178 C Q (77, lv, st, h) ↔ az_p178 C Q (78, lv, .int (Int32.ofInt (1)) :: st, h) := az_wp_iff
theorem az_s178_78 {x y : Int32} : az_p178 C Q (78, lv, .int y :: .int x :: st, h) ↔ (x = y → az_p178 C Q (91, lv, st, h)) ∧ (¬ x = y → az_p178 C Q (81, lv, st, h)) := az_wp_iff.trans (az_go_if2 az_d_eq)
theorem az_s178_81 : az_p178 C Q (81, lv, st, h) ↔ az_ma (lv 0) (fun x => az_p178 C Q (82, lv, x :: st, h)) := az_wp_iff.trans az_go_lda
theorem az_s178_82 {a : Nat} : az_p178 C Q (82, lv, .ref a :: st, h) ↔ az_mf (h.1 a) 11 18 (fun v => az_p178 C Q (85, lv, v :: st, h)) := az_wp_iff.trans az_go_gf
theorem az_s178_85 : az_p178 C Q (85, lv, st, h) ↔ az_mi (lv 1) (fun x => az_p178 C Q (86, lv, .int x :: st, h)) := az_wp_iff.trans az_go_ldi
theorem az_s178_86 {a : Nat} {i : Int32} : az_p178 C Q (86, lv, .int i :: .ref a :: st, h) ↔ az_mr (h.1 a) 0 i.toInt (fun x => az_p178 C Q (87, lv, .int x :: st, h)) := az_wp_iff.trans az_go_ial
theorem az_s178_87 : az_p178 C Q (87, lv, st, h) ↔ az_p178 C Q (88, lv, .int (Int32.ofInt (3)) :: st, h) := az_wp_iff
theorem az_s178_88 {x y : Int32} : az_p178 C Q (88, lv, .int y :: .int x :: st, h) ↔ (¬ x = y → az_p178 C Q (100, lv, st, h)) ∧ (¬ ¬ x = y → az_p178 C Q (91, lv, st, h)) := az_wp_iff.trans (az_go_if2 az_d_eq)
theorem az_s178_91 : az_p178 C Q (91, lv, st, h) ↔ az_ma (lv 0) (fun x => az_p178 C Q (92, lv, x :: st, h)) := az_wp_iff.trans az_go_lda
theorem az_s178_92 {a : Nat} : az_p178 C Q (92, lv, .ref a :: st, h) ↔ az_mf (h.1 a) 11 19 (fun v => az_p178 C Q (95, lv, v :: st, h)) := az_wp_iff.trans az_go_gf
theorem az_s178_95 : az_p178 C Q (95, lv, st, h) ↔ az_mi (lv 1) (fun x => az_p178 C Q (96, lv, .int x :: st, h)) := az_wp_iff.trans az_go_ldi
theorem az_s178_96 {a : Nat} {i : Int32} : az_p178 C Q (96, lv, .int i :: .ref a :: st, h) ↔ az_mr (h.1 a) 0 i.toInt (fun x => az_p178 C Q (97, lv, .int x :: st, h)) := az_wp_iff.trans az_go_ial
theorem az_s178_97 : az_p178 C Q (97, lv, st, h) ↔ az_p178 C Q (101, lv, st, h) := az_wp_iff
theorem az_s178_100 : az_p178 C Q (100, lv, st, h) ↔ az_p178 C Q (101, lv, .int (Int32.ofInt (0)) :: st, h) := az_wp_iff
theorem az_s178_101 {x : Int32} : az_p178 C Q (101, lv, [.int x], h) ↔ Q (some (.int x)) h := az_wp_iff
theorem az_s178_102 : az_p178 C Q (102, lv, st, h) ↔ az_ma (lv 0) (fun x => az_p178 C Q (103, lv, x :: st, h)) := az_wp_iff.trans az_go_lda
theorem az_s178_103 {a : Nat} : az_p178 C Q (103, lv, .ref a :: st, h) ↔ az_mf (h.1 a) 11 28 (fun v => az_p178 C Q (106, lv, v :: st, h)) := az_wp_iff.trans az_go_gf
theorem az_s178_106 : az_p178 C Q (106, lv, st, h) ↔ az_mi (lv 1) (fun x => az_p178 C Q (107, lv, .int x :: st, h)) := az_wp_iff.trans az_go_ldi
theorem az_s178_107 {a : Nat} {i : Int32} : az_p178 C Q (107, lv, .int i :: .ref a :: st, h) ↔ az_mr (h.1 a) 0 i.toInt (fun x => az_p178 C Q (108, lv, .int x :: st, h)) := az_wp_iff.trans az_go_ial
theorem az_s178_108 {x : Int32} : az_p178 C Q (108, lv, [.int x], h) ↔ Q (some (.int x)) h := az_wp_iff
theorem az_s178_109 : az_p178 C Q (109, lv, st, h) ↔ az_ma (lv 0) (fun x => az_p178 C Q (110, lv, x :: st, h)) := az_wp_iff.trans az_go_lda
theorem az_s178_110 {a : Nat} : az_p178 C Q (110, lv, .ref a :: st, h) ↔ az_mf (h.1 a) 11 29 (fun v => az_p178 C Q (113, lv, v :: st, h)) := az_wp_iff.trans az_go_gf
theorem az_s178_113 : az_p178 C Q (113, lv, st, h) ↔ az_mi (lv 1) (fun x => az_p178 C Q (114, lv, .int x :: st, h)) := az_wp_iff.trans az_go_ldi
theorem az_s178_114 {a : Nat} {i : Int32} : az_p178 C Q (114, lv, .int i :: .ref a :: st, h) ↔ az_mr (h.1 a) 0 i.toInt (fun x => az_p178 C Q (115, lv, .int x :: st, h)) := az_wp_iff.trans az_go_ial
theorem az_s178_115 {x : Int32} : az_p178 C Q (115, lv, [.int x], h) ↔ Q (some (.int x)) h := az_wp_iff
theorem az_s178_116 : az_p178 C Q (116, lv, st, h) ↔ az_ma (lv 0) (fun x => az_p178 C Q (117, lv, x :: st, h)) := az_wp_iff.trans az_go_lda
theorem az_s178_117 {a : Nat} : az_p178 C Q (117, lv, .ref a :: st, h) ↔ az_mf (h.1 a) 11 30 (fun v => az_p178 C Q (120, lv, v :: st, h)) := az_wp_iff.trans az_go_gf
theorem az_s178_120 : az_p178 C Q (120, lv, st, h) ↔ az_mi (lv 1) (fun x => az_p178 C Q (121, lv, .int x :: st, h)) := az_wp_iff.trans az_go_ldi
theorem az_s178_121 {a : Nat} {i : Int32} : az_p178 C Q (121, lv, .int i :: .ref a :: st, h) ↔ az_mr (h.1 a) 0 i.toInt (fun x => az_p178 C Q (122, lv, .int x :: st, h)) := az_wp_iff.trans az_go_ial
theorem az_s178_122 {x : Int32} : az_p178 C Q (122, lv, [.int x], h) ↔ Q (some (.int x)) h := az_wp_iff
theorem az_s178_123 : az_p178 C Q (123, lv, st, h) ↔ az_ma (lv 0) (fun x => az_p178 C Q (124, lv, x :: st, h)) := az_wp_iff.trans az_go_lda
theorem az_s178_124 {a : Nat} : az_p178 C Q (124, lv, .ref a :: st, h) ↔ az_mf (h.1 a) 11 31 (fun v => az_p178 C Q (127, lv, v :: st, h)) := az_wp_iff.trans az_go_gf
theorem az_s178_127 : az_p178 C Q (127, lv, st, h) ↔ az_mi (lv 1) (fun x => az_p178 C Q (128, lv, .int x :: st, h)) := az_wp_iff.trans az_go_ldi
theorem az_s178_128 {a : Nat} {i : Int32} : az_p178 C Q (128, lv, .int i :: .ref a :: st, h) ↔ az_mr (h.1 a) 0 i.toInt (fun x => az_p178 C Q (129, lv, .int x :: st, h)) := az_wp_iff.trans az_go_ial
theorem az_s178_129 {x : Int32} : az_p178 C Q (129, lv, [.int x], h) ↔ Q (some (.int x)) h := az_wp_iff
theorem az_s178_130 : az_p178 C Q (130, lv, st, h) ↔ az_ma (lv 0) (fun x => az_p178 C Q (131, lv, x :: st, h)) := az_wp_iff.trans az_go_lda
theorem az_s178_131 {a : Nat} : az_p178 C Q (131, lv, .ref a :: st, h) ↔ az_mf (h.1 a) 11 21 (fun v => az_p178 C Q (134, lv, v :: st, h)) := az_wp_iff.trans az_go_gf
theorem az_s178_134 : az_p178 C Q (134, lv, st, h) ↔ az_mi (lv 1) (fun x => az_p178 C Q (135, lv, .int x :: st, h)) := az_wp_iff.trans az_go_ldi
theorem az_s178_135 {a : Nat} {i : Int32} : az_p178 C Q (135, lv, .int i :: .ref a :: st, h) ↔ az_mr (h.1 a) 0 i.toInt (fun x => az_p178 C Q (136, lv, .int x :: st, h)) := az_wp_iff.trans az_go_ial
theorem az_s178_136 {x : Int32} : az_p178 C Q (136, lv, [.int x], h) ↔ Q (some (.int x)) h := az_wp_iff
theorem az_s178_137 : az_p178 C Q (137, lv, st, h) ↔ az_ma (lv 0) (fun x => az_p178 C Q (138, lv, x :: st, h)) := az_wp_iff.trans az_go_lda
theorem az_s178_138 {a : Nat} : az_p178 C Q (138, lv, .ref a :: st, h) ↔ az_mf (h.1 a) 11 32 (fun v => az_p178 C Q (141, lv, v :: st, h)) := az_wp_iff.trans az_go_gf
theorem az_s178_141 : az_p178 C Q (141, lv, st, h) ↔ az_mi (lv 1) (fun x => az_p178 C Q (142, lv, .int x :: st, h)) := az_wp_iff.trans az_go_ldi
theorem az_s178_142 {a : Nat} {i : Int32} : az_p178 C Q (142, lv, .int i :: .ref a :: st, h) ↔ az_mr (h.1 a) 0 i.toInt (fun x => az_p178 C Q (143, lv, .int x :: st, h)) := az_wp_iff.trans az_go_ial
theorem az_s178_143 {x : Int32} : az_p178 C Q (143, lv, [.int x], h) ↔ Q (some (.int x)) h := az_wp_iff
theorem az_s178_144 : az_p178 C Q (144, lv, st, h) ↔ az_ma (lv 0) (fun x => az_p178 C Q (145, lv, x :: st, h)) := az_wp_iff.trans az_go_lda
theorem az_s178_145 : az_p178 C Q (145, lv, st, h) ↔ az_mi (lv 1) (fun x => az_p178 C Q (146, lv, .int x :: st, h)) := az_wp_iff.trans az_go_ldi
theorem az_s178_146 {a : Nat} {v1 : Value} : az_p178 C Q (146, lv, v1 :: .ref a :: st, h) ↔ az_isob (h.1 a) 11 = true ∧ az_cat st ≤ 8 ∧ az_mc C 177 [.ref a, v1] h (fun v h' => az_p178 C Q (149, lv, v ++ st, h')) := az_wp_iff.trans (az_go_if.trans (and_congr Iff.rfl az_go_call))
theorem az_s178_149 {x : Int64} : az_p178 C Q (149, lv, .long x :: st, h) ↔ az_p178 C Q (150, lv, .int x.toInt32 :: st, h) := az_wp_iff
theorem az_s178_150 {x : Int32} : az_p178 C Q (150, lv, [.int x], h) ↔ Q (some (.int x)) h := az_wp_iff
theorem az_s178_151 : az_p178 C Q (151, lv, st, h) ↔ az_ma (lv 0) (fun x => az_p178 C Q (152, lv, x :: st, h)) := az_wp_iff.trans az_go_lda
theorem az_s178_152 {a : Nat} : az_p178 C Q (152, lv, .ref a :: st, h) ↔ az_mf (h.1 a) 11 13 (fun v => az_p178 C Q (155, lv, v :: st, h)) := az_wp_iff.trans az_go_gf
theorem az_s178_155 : az_p178 C Q (155, lv, st, h) ↔ az_mi (lv 1) (fun x => az_p178 C Q (156, lv, .int x :: st, h)) := az_wp_iff.trans az_go_ldi
theorem az_s178_156 {a : Nat} {i : Int32} : az_p178 C Q (156, lv, .int i :: .ref a :: st, h) ↔ az_mr (h.1 a) 0 i.toInt (fun x => az_p178 C Q (157, lv, .int x :: st, h)) := az_wp_iff.trans az_go_ial
theorem az_s178_157 {x : Int32} : az_p178 C Q (157, lv, .int x :: st, h) ↔ (¬ x = 0 → az_p178 C Q (164, lv, st, h)) ∧ (¬ ¬ x = 0 → az_p178 C Q (160, lv, st, h)) := az_wp_iff.trans (az_go_if1 az_d_eq)
theorem az_s178_160 : az_p178 C Q (160, lv, st, h) ↔ az_p178 C Q (161, lv, .int (Int32.ofInt (-1)) :: st, h) := az_wp_iff
theorem az_s178_161 : az_p178 C Q (161, lv, st, h) ↔ az_p178 C Q (172, lv, st, h) := az_wp_iff
theorem az_s178_164 : az_p178 C Q (164, lv, st, h) ↔ az_ma (lv 0) (fun x => az_p178 C Q (165, lv, x :: st, h)) := az_wp_iff.trans az_go_lda
theorem az_s178_165 {a : Nat} : az_p178 C Q (165, lv, .ref a :: st, h) ↔ az_mf (h.1 a) 11 14 (fun v => az_p178 C Q (168, lv, v :: st, h)) := az_wp_iff.trans az_go_gf
theorem az_s178_168 : az_p178 C Q (168, lv, st, h) ↔ az_p178 C Q (169, lv, .int (Int32.ofInt (3)) :: st, h) := az_wp_iff
theorem az_s178_169 : az_p178 C Q (169, lv, st, h) ↔ az_mi (lv 1) (fun x => az_p178 C Q (170, lv, .int x :: st, h)) := az_wp_iff.trans az_go_ldi
theorem az_s178_170 {x y : Int32} : az_p178 C Q (170, lv, .int y :: .int x :: st, h) ↔ az_p178 C Q (171, lv, .int (x * y) :: st, h) := az_wp_iff
theorem az_s178_171 {a : Nat} {i : Int32} : az_p178 C Q (171, lv, .int i :: .ref a :: st, h) ↔ az_mr (h.1 a) 0 i.toInt (fun x => az_p178 C Q (172, lv, .int x :: st, h)) := az_wp_iff.trans az_go_ial
theorem az_s178_172 {x : Int32} : az_p178 C Q (172, lv, [.int x], h) ↔ Q (some (.int x)) h := az_wp_iff
theorem az_s178_173 : az_p178 C Q (173, lv, st, h) ↔ az_p178 C Q (174, lv, .int (Int32.ofInt (-1)) :: st, h) := az_wp_iff
theorem az_s178_174 {x : Int32} : az_p178 C Q (174, lv, [.int x], h) ↔ Q (some (.int x)) h := az_wp_iff
def az_p179 (C : az_Cl) (Q : Option Value → az_H → Prop) : az_S → Prop := az_wp C (fun _ => none) (some .int) (az_fn az_k179) Q
theorem az_s179_0 : az_p179 C Q (0, lv, st, h) ↔ az_ma (lv 0) (fun x => az_p179 C Q (1, lv, x :: st, h)) := az_wp_iff.trans az_go_lda
theorem az_s179_1 : az_p179 C Q (1, lv, st, h) ↔ az_mi (lv 1) (fun x => az_p179 C Q (2, lv, .int x :: st, h)) := az_wp_iff.trans az_go_ldi
theorem az_s179_2 {a : Nat} {v1 : Value} : az_p179 C Q (2, lv, v1 :: .ref a :: st, h) ↔ az_isob (h.1 a) 11 = true ∧ az_cat st ≤ 8 ∧ az_mc C 135 [.ref a, v1] h (fun v h' => az_p179 C Q (5, lv, v ++ st, h')) := az_wp_iff.trans (az_go_if.trans (and_congr Iff.rfl az_go_call))
theorem az_s179_5 {x : Int32} : az_p179 C Q (5, lv, .int x :: st, h) ↔ (x = 0 → az_p179 C Q (22, lv, st, h)) ∧ (¬ x = 0 → az_p179 C Q (8, lv, st, h)) := az_wp_iff.trans (az_go_if1 az_d_eq)
theorem az_s179_8 : az_p179 C Q (8, lv, st, h) ↔ az_mi (lv 2) (fun x => az_p179 C Q (9, lv, .int x :: st, h)) := az_wp_iff.trans az_go_ldi
theorem az_s179_9 {x : Int32} : az_p179 C Q (9, lv, .int x :: st, h) ↔ (x < 0 → az_p179 C Q (22, lv, st, h)) ∧ (¬ x < 0 → az_p179 C Q (12, lv, st, h)) := az_wp_iff.trans (az_go_if1 az_d_eq)
theorem az_s179_12 : az_p179 C Q (12, lv, st, h) ↔ az_mi (lv 2) (fun x => az_p179 C Q (13, lv, .int x :: st, h)) := az_wp_iff.trans az_go_ldi
theorem az_s179_13 : az_p179 C Q (13, lv, st, h) ↔ az_ma (lv 0) (fun x => az_p179 C Q (14, lv, x :: st, h)) := az_wp_iff.trans az_go_lda
theorem az_s179_14 {a : Nat} : az_p179 C Q (14, lv, .ref a :: st, h) ↔ az_mf (h.1 a) 11 4 (fun v => az_p179 C Q (17, lv, v :: st, h)) := az_wp_iff.trans az_go_gf
theorem az_s179_17 : az_p179 C Q (17, lv, st, h) ↔ az_mi (lv 1) (fun x => az_p179 C Q (18, lv, .int x :: st, h)) := az_wp_iff.trans az_go_ldi
theorem az_s179_18 {a : Nat} {i : Int32} : az_p179 C Q (18, lv, .int i :: .ref a :: st, h) ↔ az_mr (h.1 a) 0 i.toInt (fun x => az_p179 C Q (19, lv, .int x :: st, h)) := az_wp_iff.trans az_go_ial
theorem az_s179_19 {x y : Int32} : az_p179 C Q (19, lv, .int y :: .int x :: st, h) ↔ (x < y → az_p179 C Q (24, lv, st, h)) ∧ (¬ x < y → az_p179 C Q (22, lv, st, h)) := az_wp_iff.trans (az_go_if2 az_d_eq)
theorem az_s179_22 : az_p179 C Q (22, lv, st, h) ↔ az_p179 C Q (23, lv, .int (Int32.ofInt (-1)) :: st, h) := az_wp_iff
theorem az_s179_23 {x : Int32} : az_p179 C Q (23, lv, [.int x], h) ↔ Q (some (.int x)) h := az_wp_iff
theorem az_s179_24 : az_p179 C Q (24, lv, st, h) ↔ az_ma (lv 0) (fun x => az_p179 C Q (25, lv, x :: st, h)) := az_wp_iff.trans az_go_lda
theorem az_s179_25 {a : Nat} : az_p179 C Q (25, lv, .ref a :: st, h) ↔ az_mf (h.1 a) 11 5 (fun v => az_p179 C Q (28, lv, v :: st, h)) := az_wp_iff.trans az_go_gf
theorem az_s179_28 : az_p179 C Q (28, lv, st, h) ↔ az_p179 C Q (30, lv, .int (Int32.ofInt (40)) :: st, h) := az_wp_iff
theorem az_s179_30 : az_p179 C Q (30, lv, st, h) ↔ az_mi (lv 1) (fun x => az_p179 C Q (31, lv, .int x :: st, h)) := az_wp_iff.trans az_go_ldi
theorem az_s179_31 {x y : Int32} : az_p179 C Q (31, lv, .int y :: .int x :: st, h) ↔ az_p179 C Q (32, lv, .int (x * y) :: st, h) := az_wp_iff
theorem az_s179_32 : az_p179 C Q (32, lv, st, h) ↔ az_mi (lv 2) (fun x => az_p179 C Q (33, lv, .int x :: st, h)) := az_wp_iff.trans az_go_ldi
theorem az_s179_33 {x y : Int32} : az_p179 C Q (33, lv, .int y :: .int x :: st, h) ↔ az_p179 C Q (34, lv, .int (x + y) :: st, h) := az_wp_iff
theorem az_s179_34 {a : Nat} {i : Int32} : az_p179 C Q (34, lv, .int i :: .ref a :: st, h) ↔ az_mr (h.1 a) 0 i.toInt (fun x => az_p179 C Q (35, lv, .int x :: st, h)) := az_wp_iff.trans az_go_ial
theorem az_s179_35 {x : Int32} : az_p179 C Q (35, lv, .int x :: st, h) ↔ az_p179 C Q (37, (az_s1 lv 4 (.int x)), st, h) := az_wp_iff
theorem az_s179_37 : az_p179 C Q (37, lv, st, h) ↔ az_mi (lv 3) (fun x => az_p179 C Q (38, lv, .int x :: st, h)) := az_wp_iff.trans az_go_ldi
theorem az_s179_38 {x : Int32} : az_p179 C Q (38, lv, .int x :: st, h) ↔ (x.toInt = 0 → az_p179 C Q (68, lv, st, h)) ∧ (¬ x.toInt = 0 → (x.toInt = 1 → az_p179 C Q (71, lv, st, h)) ∧ (¬ x.toInt = 1 → (x.toInt = 2 → az_p179 C Q (80, lv, st, h)) ∧ (¬ x.toInt = 2 → (x.toInt = 3 → az_p179 C Q (88, lv, st, h)) ∧ (¬ x.toInt = 3 → az_p179 C Q (96, lv, st, h))))) := az_wp_iff.trans (az_sel_iff (K := fun t => az_p179 C Q (t, lv, st, h)) _ _ _)
theorem az_s179_68 : az_p179 C Q (68, lv, st, h) ↔ az_mi (lv 4) (fun x => az_p179 C Q (70, lv, .int x :: st, h)) := az_wp_iff.trans az_go_ldi
theorem az_s179_70 {x : Int32} : az_p179 C Q (70, lv, [.int x], h) ↔ Q (some (.int x)) h := az_wp_iff
theorem az_s179_71 : az_p179 C Q (71, lv, st, h) ↔ az_ma (lv 0) (fun x => az_p179 C Q (72, lv, x :: st, h)) := az_wp_iff.trans az_go_lda
theorem az_s179_72 {a : Nat} : az_p179 C Q (72, lv, .ref a :: st, h) ↔ az_mf (h.1 a) 11 34 (fun v => az_p179 C Q (75, lv, v :: st, h)) := az_wp_iff.trans az_go_gf
theorem az_s179_75 : az_p179 C Q (75, lv, st, h) ↔ az_mi (lv 4) (fun x => az_p179 C Q (77, lv, .int x :: st, h)) := az_wp_iff.trans az_go_ldi
theorem az_s179_77 {a : Nat} {i : Int32} : az_p179 C Q (77, lv, .int i :: .ref a :: st, h) ↔ az_mrl (h.1 a) i.toInt (fun x => az_p179 C Q (78, lv, .long x :: st, h)) := az_wp_iff.trans az_go_lal
theorem az_s179_78 {x : Int64} : az_p179 C Q (78, lv, .long x :: st, h) ↔ az_p179 C Q (79, lv, .int x.toInt32 :: st, h) := az_wp_iff
theorem az_s179_79 {x : Int32} : az_p179 C Q (79, lv, [.int x], h) ↔ Q (some (.int x)) h := az_wp_iff
theorem az_s179_80 : az_p179 C Q (80, lv, st, h) ↔ az_ma (lv 0) (fun x => az_p179 C Q (81, lv, x :: st, h)) := az_wp_iff.trans az_go_lda
theorem az_s179_81 {a : Nat} : az_p179 C Q (81, lv, .ref a :: st, h) ↔ az_mf (h.1 a) 11 35 (fun v => az_p179 C Q (84, lv, v :: st, h)) := az_wp_iff.trans az_go_gf
theorem az_s179_84 : az_p179 C Q (84, lv, st, h) ↔ az_mi (lv 4) (fun x => az_p179 C Q (86, lv, .int x :: st, h)) := az_wp_iff.trans az_go_ldi
theorem az_s179_86 {a : Nat} {i : Int32} : az_p179 C Q (86, lv, .int i :: .ref a :: st, h) ↔ az_mr (h.1 a) 0 i.toInt (fun x => az_p179 C Q (87, lv, .int x :: st, h)) := az_wp_iff.trans az_go_ial
theorem az_s179_87 {x : Int32} : az_p179 C Q (87, lv, [.int x], h) ↔ Q (some (.int x)) h := az_wp_iff
theorem az_s179_88 : az_p179 C Q (88, lv, st, h) ↔ az_ma (lv 0) (fun x => az_p179 C Q (89, lv, x :: st, h)) := az_wp_iff.trans az_go_lda
theorem az_s179_89 {a : Nat} : az_p179 C Q (89, lv, .ref a :: st, h) ↔ az_mf (h.1 a) 11 36 (fun v => az_p179 C Q (92, lv, v :: st, h)) := az_wp_iff.trans az_go_gf
theorem az_s179_92 : az_p179 C Q (92, lv, st, h) ↔ az_mi (lv 4) (fun x => az_p179 C Q (94, lv, .int x :: st, h)) := az_wp_iff.trans az_go_ldi
theorem az_s179_94 {a : Nat} {i : Int32} : az_p179 C Q (94, lv, .int i :: .ref a :: st, h) ↔ az_mr (h.1 a) 0 i.toInt (fun x => az_p179 C Q (95, lv, .int x :: st, h)) := az_wp_iff.trans az_go_ial
theorem az_s179_95 {x : Int32} : az_p179 C Q (95, lv, [.int x], h) ↔ Q (some (.int x)) h := az_wp_iff
theorem az_s179_96 : az_p179 C Q (96, lv, st, h) ↔ az_p179 C Q (97, lv, .int (Int32.ofInt (-1)) :: st, h) := az_wp_iff
theorem az_s179_97 {x : Int32} : az_p179 C Q (97, lv, [.int x], h) ↔ Q (some (.int x)) h := az_wp_iff
def az_p180 (C : az_Cl) (Q : Option Value → az_H → Prop) : az_S → Prop := az_wp C (fun _ => none) (some .int) (az_fn az_k180) Q
theorem az_s180_0 : az_p180 C Q (0, lv, st, h) ↔ az_ma (lv 0) (fun x => az_p180 C Q (1, lv, x :: st, h)) := az_wp_iff.trans az_go_lda
theorem az_s180_1 : az_p180 C Q (1, lv, st, h) ↔ az_mi (lv 1) (fun x => az_p180 C Q (2, lv, .int x :: st, h)) := az_wp_iff.trans az_go_ldi
theorem az_s180_2 {a : Nat} {v1 : Value} : az_p180 C Q (2, lv, v1 :: .ref a :: st, h) ↔ az_isob (h.1 a) 11 = true ∧ az_cat st ≤ 8 ∧ az_mc C 135 [.ref a, v1] h (fun v h' => az_p180 C Q (5, lv, v ++ st, h')) := az_wp_iff.trans (az_go_if.trans (and_congr Iff.rfl az_go_call))
theorem az_s180_5 {x : Int32} : az_p180 C Q (5, lv, .int x :: st, h) ↔ (¬ x = 0 → az_p180 C Q (10, lv, st, h)) ∧ (¬ ¬ x = 0 → az_p180 C Q (8, lv, st, h)) := az_wp_iff.trans (az_go_if1 az_d_eq)
theorem az_s180_8 : az_p180 C Q (8, lv, st, h) ↔ az_p180 C Q (9, lv, .int (Int32.ofInt (-1)) :: st, h) := az_wp_iff
theorem az_s180_9 {x : Int32} : az_p180 C Q (9, lv, [.int x], h) ↔ Q (some (.int x)) h := az_wp_iff
theorem az_s180_10 : az_p180 C Q (10, lv, st, h) ↔ az_p180 C Q (11, lv, .long (Int64.ofInt (0)) :: st, h) := az_wp_iff
theorem az_s180_11 {x : Int64} : az_p180 C Q (11, lv, .long x :: st, h) ↔ az_p180 C Q (12, (az_s2 lv 3 (.long x)), st, h) := az_wp_iff
theorem az_s180_12 : az_p180 C Q (12, lv, st, h) ↔ az_mi (lv 2) (fun x => az_p180 C Q (13, lv, .int x :: st, h)) := az_wp_iff.trans az_go_ldi
theorem az_s180_13 {x : Int32} : az_p180 C Q (13, lv, .int x :: st, h) ↔ (x.toInt = 0 → az_p180 C Q (44, lv, st, h)) ∧ (¬ x.toInt = 0 → (x.toInt = 1 → az_p180 C Q (51, lv, st, h)) ∧ (¬ x.toInt = 1 → (x.toInt = 2 → az_p180 C Q (58, lv, st, h)) ∧ (¬ x.toInt = 2 → (x.toInt = 3 → az_p180 C Q (65, lv, st, h)) ∧ (¬ x.toInt = 3 → az_p180 C Q (108, lv, st, h))))) := az_wp_iff.trans (az_sel_iff (K := fun t => az_p180 C Q (t, lv, st, h)) _ _ _)
theorem az_s180_44 : az_p180 C Q (44, lv, st, h) ↔ az_ma (lv 0) (fun x => az_p180 C Q (45, lv, x :: st, h)) := az_wp_iff.trans az_go_lda
theorem az_s180_45 {a : Nat} : az_p180 C Q (45, lv, .ref a :: st, h) ↔ az_mf (h.1 a) 11 4 (fun v => az_p180 C Q (48, lv, v :: st, h)) := az_wp_iff.trans az_go_gf
theorem az_s180_48 : az_p180 C Q (48, lv, st, h) ↔ az_mi (lv 1) (fun x => az_p180 C Q (49, lv, .int x :: st, h)) := az_wp_iff.trans az_go_ldi
theorem az_s180_49 {a : Nat} {i : Int32} : az_p180 C Q (49, lv, .int i :: .ref a :: st, h) ↔ az_mr (h.1 a) 0 i.toInt (fun x => az_p180 C Q (50, lv, .int x :: st, h)) := az_wp_iff.trans az_go_ial
theorem az_s180_50 {x : Int32} : az_p180 C Q (50, lv, [.int x], h) ↔ Q (some (.int x)) h := az_wp_iff
theorem az_s180_51 : az_p180 C Q (51, lv, st, h) ↔ az_ma (lv 0) (fun x => az_p180 C Q (52, lv, x :: st, h)) := az_wp_iff.trans az_go_lda
theorem az_s180_52 {a : Nat} : az_p180 C Q (52, lv, .ref a :: st, h) ↔ az_mf (h.1 a) 11 6 (fun v => az_p180 C Q (55, lv, v :: st, h)) := az_wp_iff.trans az_go_gf
theorem az_s180_55 : az_p180 C Q (55, lv, st, h) ↔ az_mi (lv 1) (fun x => az_p180 C Q (56, lv, .int x :: st, h)) := az_wp_iff.trans az_go_ldi
theorem az_s180_56 {a : Nat} {i : Int32} : az_p180 C Q (56, lv, .int i :: .ref a :: st, h) ↔ az_mr (h.1 a) 0 i.toInt (fun x => az_p180 C Q (57, lv, .int x :: st, h)) := az_wp_iff.trans az_go_ial
theorem az_s180_57 {x : Int32} : az_p180 C Q (57, lv, [.int x], h) ↔ Q (some (.int x)) h := az_wp_iff
theorem az_s180_58 : az_p180 C Q (58, lv, st, h) ↔ az_ma (lv 0) (fun x => az_p180 C Q (59, lv, x :: st, h)) := az_wp_iff.trans az_go_lda
theorem az_s180_59 {a : Nat} : az_p180 C Q (59, lv, .ref a :: st, h) ↔ az_mf (h.1 a) 11 3 (fun v => az_p180 C Q (62, lv, v :: st, h)) := az_wp_iff.trans az_go_gf
theorem az_s180_62 : az_p180 C Q (62, lv, st, h) ↔ az_mi (lv 1) (fun x => az_p180 C Q (63, lv, .int x :: st, h)) := az_wp_iff.trans az_go_ldi
theorem az_s180_63 {a : Nat} {i : Int32} : az_p180 C Q (63, lv, .int i :: .ref a :: st, h) ↔ az_mr (h.1 a) 0 i.toInt (fun x => az_p180 C Q (64, lv, .int x :: st, h)) := az_wp_iff.trans az_go_ial
theorem az_s180_64 {x : Int32} : az_p180 C Q (64, lv, [.int x], h) ↔ Q (some (.int x)) h := az_wp_iff
theorem az_s180_65 : az_p180 C Q (65, lv, st, h) ↔ az_p180 C Q (66, lv, .int (Int32.ofInt (0)) :: st, h) := az_wp_iff
theorem az_s180_66 {x : Int32} : az_p180 C Q (66, lv, .int x :: st, h) ↔ az_p180 C Q (68, (az_s1 lv 5 (.int x)), st, h) := az_wp_iff
theorem az_s180_68 : az_p180 C Q (68, lv, st, h) ↔ az_mi (lv 5) (fun x => az_p180 C Q (70, lv, .int x :: st, h)) := az_wp_iff.trans az_go_ldi
theorem az_s180_70 : az_p180 C Q (70, lv, st, h) ↔ az_ma (lv 0) (fun x => az_p180 C Q (71, lv, x :: st, h)) := az_wp_iff.trans az_go_lda
theorem az_s180_71 {a : Nat} : az_p180 C Q (71, lv, .ref a :: st, h) ↔ az_mf (h.1 a) 11 4 (fun v => az_p180 C Q (74, lv, v :: st, h)) := az_wp_iff.trans az_go_gf
theorem az_s180_74 : az_p180 C Q (74, lv, st, h) ↔ az_mi (lv 1) (fun x => az_p180 C Q (75, lv, .int x :: st, h)) := az_wp_iff.trans az_go_ldi
theorem az_s180_75 {a : Nat} {i : Int32} : az_p180 C Q (75, lv, .int i :: .ref a :: st, h) ↔ az_mr (h.1 a) 0 i.toInt (fun x => az_p180 C Q (76, lv, .int x :: st, h)) := az_wp_iff.trans az_go_ial
theorem az_s180_76 {x y : Int32} : az_p180 C Q (76, lv, .int y :: .int x :: st, h) ↔ (y ≤ x → az_p180 C Q (105, lv, st, h)) ∧ (¬ y ≤ x → az_p180 C Q (79, lv, st, h)) := az_wp_iff.trans (az_go_if2 az_d_eq)
theorem az_s180_79 : az_p180 C Q (79, lv, st, h) ↔ az_ml (lv 3) (fun x => az_p180 C Q (80, lv, .long x :: st, h)) := az_wp_iff.trans az_go_ldl
theorem az_s180_80 : az_p180 C Q (80, lv, st, h) ↔ az_ma (lv 0) (fun x => az_p180 C Q (81, lv, x :: st, h)) := az_wp_iff.trans az_go_lda
theorem az_s180_81 {a : Nat} : az_p180 C Q (81, lv, .ref a :: st, h) ↔ az_mf (h.1 a) 11 34 (fun v => az_p180 C Q (84, lv, v :: st, h)) := az_wp_iff.trans az_go_gf
theorem az_s180_84 : az_p180 C Q (84, lv, st, h) ↔ az_ma (lv 0) (fun x => az_p180 C Q (85, lv, x :: st, h)) := az_wp_iff.trans az_go_lda
theorem az_s180_85 {a : Nat} : az_p180 C Q (85, lv, .ref a :: st, h) ↔ az_mf (h.1 a) 11 5 (fun v => az_p180 C Q (88, lv, v :: st, h)) := az_wp_iff.trans az_go_gf
theorem az_s180_88 : az_p180 C Q (88, lv, st, h) ↔ az_p180 C Q (90, lv, .int (Int32.ofInt (40)) :: st, h) := az_wp_iff
theorem az_s180_90 : az_p180 C Q (90, lv, st, h) ↔ az_mi (lv 1) (fun x => az_p180 C Q (91, lv, .int x :: st, h)) := az_wp_iff.trans az_go_ldi
theorem az_s180_91 {x y : Int32} : az_p180 C Q (91, lv, .int y :: .int x :: st, h) ↔ az_p180 C Q (92, lv, .int (x * y) :: st, h) := az_wp_iff
theorem az_s180_92 : az_p180 C Q (92, lv, st, h) ↔ az_mi (lv 5) (fun x => az_p180 C Q (94, lv, .int x :: st, h)) := az_wp_iff.trans az_go_ldi
theorem az_s180_94 {x y : Int32} : az_p180 C Q (94, lv, .int y :: .int x :: st, h) ↔ az_p180 C Q (95, lv, .int (x + y) :: st, h) := az_wp_iff
theorem az_s180_95 {a : Nat} {i : Int32} : az_p180 C Q (95, lv, .int i :: .ref a :: st, h) ↔ az_mr (h.1 a) 0 i.toInt (fun x => az_p180 C Q (96, lv, .int x :: st, h)) := az_wp_iff.trans az_go_ial
theorem az_s180_96 {a : Nat} {i : Int32} : az_p180 C Q (96, lv, .int i :: .ref a :: st, h) ↔ az_mrl (h.1 a) i.toInt (fun x => az_p180 C Q (97, lv, .long x :: st, h)) := az_wp_iff.trans az_go_lal
theorem az_s180_97 {x y : Int64} : az_p180 C Q (97, lv, .long y :: .long x :: st, h) ↔ az_p180 C Q (98, lv, .long (x + y) :: st, h) := az_wp_iff
theorem az_s180_98 {x : Int64} : az_p180 C Q (98, lv, .long x :: st, h) ↔ az_p180 C Q (99, (az_s2 lv 3 (.long x)), st, h) := az_wp_iff
theorem az_s180_99 : az_p180 C Q (99, lv, st, h) ↔ az_mi (lv 5) (fun x => az_p180 C Q (102, (az_s1 lv 5 (.int (x + Int32.ofInt (1)))), st, h)) := az_wp_iff.trans az_go_inc
theorem az_s180_102 : az_p180 C Q (102, lv, st, h) ↔ az_p180 C Q (68, lv, st, h) := az_wp_iff
theorem az_s180_105 : az_p180 C Q (105, lv, st, h) ↔ az_ml (lv 3) (fun x => az_p180 C Q (106, lv, .long x :: st, h)) := az_wp_iff.trans az_go_ldl
theorem az_s180_106 {x : Int64} : az_p180 C Q (106, lv, .long x :: st, h) ↔ az_p180 C Q (107, lv, .int x.toInt32 :: st, h) := az_wp_iff
theorem az_s180_107 {x : Int32} : az_p180 C Q (107, lv, [.int x], h) ↔ Q (some (.int x)) h := az_wp_iff
theorem az_s180_108 : az_p180 C Q (108, lv, st, h) ↔ az_p180 C Q (109, lv, .int (Int32.ofInt (-1)) :: st, h) := az_wp_iff
theorem az_s180_109 {x : Int32} : az_p180 C Q (109, lv, [.int x], h) ↔ Q (some (.int x)) h := az_wp_iff
def az_p181 (C : az_Cl) (Q : Option Value → az_H → Prop) : az_S → Prop := az_wp C (fun _ => none) (some .int) (az_fn az_k181) Q
theorem az_s181_0 : az_p181 C Q (0, lv, st, h) ↔ az_mi (lv 1) (fun x => az_p181 C Q (1, lv, .int x :: st, h)) := az_wp_iff.trans az_go_ldi
theorem az_s181_1 : az_p181 C Q (1, lv, st, h) ↔ az_p181 C Q (2, lv, .int (Int32.ofInt (0)) :: st, h) := az_wp_iff
theorem az_s181_2 : az_p181 C Q (2, lv, st, h) ↔ az_ma (lv 0) (fun x => az_p181 C Q (3, lv, x :: st, h)) := az_wp_iff.trans az_go_lda
theorem az_s181_3 {a : Nat} : az_p181 C Q (3, lv, .ref a :: st, h) ↔ az_mf (h.1 a) 11 33 (fun v => az_p181 C Q (6, lv, v :: st, h)) := az_wp_iff.trans az_go_gf
theorem az_s181_6 : az_p181 C Q (6, lv, st, h) ↔ az_p181 C Q (7, lv, .int (Int32.ofInt (1)) :: st, h) := az_wp_iff
theorem az_s181_7 {x y : Int32} : az_p181 C Q (7, lv, .int y :: .int x :: st, h) ↔ az_p181 C Q (8, lv, .int (x - y) :: st, h) := az_wp_iff
theorem az_s181_8 {v1 v2 v3 : Value} : az_p181 C Q (8, lv, v3 :: v2 :: v1 :: st, h) ↔ az_cat st ≤ 8 ∧ az_mc C 134 [v1, v2, v3] h (fun v h' => az_p181 C Q (11, lv, v ++ st, h')) := az_wp_iff.trans az_go_call
theorem az_s181_11 {x : Int32} : az_p181 C Q (11, lv, .int x :: st, h) ↔ (x = 0 → az_p181 C Q (36, lv, st, h)) ∧ (¬ x = 0 → az_p181 C Q (14, lv, st, h)) := az_wp_iff.trans (az_go_if1 az_d_eq)
theorem az_s181_14 : az_p181 C Q (14, lv, st, h) ↔ az_mi (lv 2) (fun x => az_p181 C Q (15, lv, .int x :: st, h)) := az_wp_iff.trans az_go_ldi
theorem az_s181_15 : az_p181 C Q (15, lv, st, h) ↔ az_p181 C Q (16, lv, .int (Int32.ofInt (0)) :: st, h) := az_wp_iff
theorem az_s181_16 : az_p181 C Q (16, lv, st, h) ↔ az_p181 C Q (17, lv, .int (Int32.ofInt (3)) :: st, h) := az_wp_iff
theorem az_s181_17 {v1 v2 v3 : Value} : az_p181 C Q (17, lv, v3 :: v2 :: v1 :: st, h) ↔ az_cat st ≤ 8 ∧ az_mc C 134 [v1, v2, v3] h (fun v h' => az_p181 C Q (20, lv, v ++ st, h')) := az_wp_iff.trans az_go_call
theorem az_s181_20 {x : Int32} : az_p181 C Q (20, lv, .int x :: st, h) ↔ (x = 0 → az_p181 C Q (36, lv, st, h)) ∧ (¬ x = 0 → az_p181 C Q (23, lv, st, h)) := az_wp_iff.trans (az_go_if1 az_d_eq)
theorem az_s181_23 : az_p181 C Q (23, lv, st, h) ↔ az_ma (lv 0) (fun x => az_p181 C Q (24, lv, x :: st, h)) := az_wp_iff.trans az_go_lda
theorem az_s181_24 {a : Nat} : az_p181 C Q (24, lv, .ref a :: st, h) ↔ az_mf (h.1 a) 11 37 (fun v => az_p181 C Q (27, lv, v :: st, h)) := az_wp_iff.trans az_go_gf
theorem az_s181_27 : az_p181 C Q (27, lv, st, h) ↔ az_p181 C Q (28, lv, .int (Int32.ofInt (4)) :: st, h) := az_wp_iff
theorem az_s181_28 : az_p181 C Q (28, lv, st, h) ↔ az_mi (lv 1) (fun x => az_p181 C Q (29, lv, .int x :: st, h)) := az_wp_iff.trans az_go_ldi
theorem az_s181_29 {x y : Int32} : az_p181 C Q (29, lv, .int y :: .int x :: st, h) ↔ az_p181 C Q (30, lv, .int (x * y) :: st, h) := az_wp_iff
theorem az_s181_30 : az_p181 C Q (30, lv, st, h) ↔ az_mi (lv 2) (fun x => az_p181 C Q (31, lv, .int x :: st, h)) := az_wp_iff.trans az_go_ldi
theorem az_s181_31 {x y : Int32} : az_p181 C Q (31, lv, .int y :: .int x :: st, h) ↔ az_p181 C Q (32, lv, .int (x + y) :: st, h) := az_wp_iff
theorem az_s181_32 {a : Nat} {i : Int32} : az_p181 C Q (32, lv, .int i :: .ref a :: st, h) ↔ az_mr (h.1 a) 0 i.toInt (fun x => az_p181 C Q (33, lv, .int x :: st, h)) := az_wp_iff.trans az_go_ial
theorem az_s181_33 : az_p181 C Q (33, lv, st, h) ↔ az_p181 C Q (37, lv, st, h) := az_wp_iff
theorem az_s181_36 : az_p181 C Q (36, lv, st, h) ↔ az_p181 C Q (37, lv, .int (Int32.ofInt (-1)) :: st, h) := az_wp_iff
theorem az_s181_37 {x : Int32} : az_p181 C Q (37, lv, [.int x], h) ↔ Q (some (.int x)) h := az_wp_iff
def az_p182 (C : az_Cl) (Q : Option Value → az_H → Prop) : az_S → Prop := az_wp C (fun _ => none) (some .int) (az_fn az_k182) Q
theorem az_s182_0 : az_p182 C Q (0, lv, st, h) ↔ az_mi (lv 1) (fun x => az_p182 C Q (1, lv, .int x :: st, h)) := az_wp_iff.trans az_go_ldi
theorem az_s182_1 : az_p182 C Q (1, lv, st, h) ↔ az_p182 C Q (2, lv, .int (Int32.ofInt (0)) :: st, h) := az_wp_iff
theorem az_s182_2 : az_p182 C Q (2, lv, st, h) ↔ az_p182 C Q (4, lv, .int (Int32.ofInt (9)) :: st, h) := az_wp_iff
theorem az_s182_4 {v1 v2 v3 : Value} : az_p182 C Q (4, lv, v3 :: v2 :: v1 :: st, h) ↔ az_cat st ≤ 8 ∧ az_mc C 134 [v1, v2, v3] h (fun v h' => az_p182 C Q (7, lv, v ++ st, h')) := az_wp_iff.trans az_go_call
theorem az_s182_7 {x : Int32} : az_p182 C Q (7, lv, .int x :: st, h) ↔ (x = 0 → az_p182 C Q (19, lv, st, h)) ∧ (¬ x = 0 → az_p182 C Q (10, lv, st, h)) := az_wp_iff.trans (az_go_if1 az_d_eq)
theorem az_s182_10 : az_p182 C Q (10, lv, st, h) ↔ az_ma (lv 0) (fun x => az_p182 C Q (11, lv, x :: st, h)) := az_wp_iff.trans az_go_lda
theorem az_s182_11 {a : Nat} : az_p182 C Q (11, lv, .ref a :: st, h) ↔ az_mf (h.1 a) 11 53 (fun v => az_p182 C Q (14, lv, v :: st, h)) := az_wp_iff.trans az_go_gf
theorem az_s182_14 : az_p182 C Q (14, lv, st, h) ↔ az_mi (lv 1) (fun x => az_p182 C Q (15, lv, .int x :: st, h)) := az_wp_iff.trans az_go_ldi
theorem az_s182_15 {a : Nat} {i : Int32} : az_p182 C Q (15, lv, .int i :: .ref a :: st, h) ↔ az_mr (h.1 a) 0 i.toInt (fun x => az_p182 C Q (16, lv, .int x :: st, h)) := az_wp_iff.trans az_go_ial
theorem az_s182_16 : az_p182 C Q (16, lv, st, h) ↔ az_p182 C Q (20, lv, st, h) := az_wp_iff
theorem az_s182_19 : az_p182 C Q (19, lv, st, h) ↔ az_p182 C Q (20, lv, .int (Int32.ofInt (-1)) :: st, h) := az_wp_iff
theorem az_s182_20 {x : Int32} : az_p182 C Q (20, lv, [.int x], h) ↔ Q (some (.int x)) h := az_wp_iff
def az_p183 (C : az_Cl) (Q : Option Value → az_H → Prop) : az_S → Prop := az_wp C (fun _ => none) (some .int) (az_fn az_k183) Q
theorem az_s183_0 : az_p183 C Q (0, lv, st, h) ↔ az_mi (lv 1) (fun x => az_p183 C Q (1, lv, .int x :: st, h)) := az_wp_iff.trans az_go_ldi
theorem az_s183_1 : az_p183 C Q (1, lv, st, h) ↔ az_p183 C Q (2, lv, .int (Int32.ofInt (0)) :: st, h) := az_wp_iff
theorem az_s183_2 : az_p183 C Q (2, lv, st, h) ↔ az_ma (lv 0) (fun x => az_p183 C Q (3, lv, x :: st, h)) := az_wp_iff.trans az_go_lda
theorem az_s183_3 {a : Nat} : az_p183 C Q (3, lv, .ref a :: st, h) ↔ az_mf (h.1 a) 11 43 (fun v => az_p183 C Q (6, lv, v :: st, h)) := az_wp_iff.trans az_go_gf
theorem az_s183_6 : az_p183 C Q (6, lv, st, h) ↔ az_p183 C Q (7, lv, .int (Int32.ofInt (1)) :: st, h) := az_wp_iff
theorem az_s183_7 {x y : Int32} : az_p183 C Q (7, lv, .int y :: .int x :: st, h) ↔ az_p183 C Q (8, lv, .int (x - y) :: st, h) := az_wp_iff
theorem az_s183_8 {v1 v2 v3 : Value} : az_p183 C Q (8, lv, v3 :: v2 :: v1 :: st, h) ↔ az_cat st ≤ 8 ∧ az_mc C 134 [v1, v2, v3] h (fun v h' => az_p183 C Q (11, lv, v ++ st, h')) := az_wp_iff.trans az_go_call
theorem az_s183_11 {x : Int32} : az_p183 C Q (11, lv, .int x :: st, h) ↔ (¬ x = 0 → az_p183 C Q (16, lv, st, h)) ∧ (¬ ¬ x = 0 → az_p183 C Q (14, lv, st, h)) := az_wp_iff.trans (az_go_if1 az_d_eq)
theorem az_s183_14 : az_p183 C Q (14, lv, st, h) ↔ az_p183 C Q (15, lv, .int (Int32.ofInt (-1)) :: st, h) := az_wp_iff
theorem az_s183_15 {x : Int32} : az_p183 C Q (15, lv, [.int x], h) ↔ Q (some (.int x)) h := az_wp_iff
theorem az_s183_16 : az_p183 C Q (16, lv, st, h) ↔ az_mi (lv 2) (fun x => az_p183 C Q (17, lv, .int x :: st, h)) := az_wp_iff.trans az_go_ldi
theorem az_s183_17 {x : Int32} : az_p183 C Q (17, lv, .int x :: st, h) ↔ (x.toInt = 0 → az_p183 C Q (52, lv, st, h)) ∧ (¬ x.toInt = 0 → (x.toInt = 1 → az_p183 C Q (59, lv, st, h)) ∧ (¬ x.toInt = 1 → (x.toInt = 2 → az_p183 C Q (66, lv, st, h)) ∧ (¬ x.toInt = 2 → (x.toInt = 3 → az_p183 C Q (73, lv, st, h)) ∧ (¬ x.toInt = 3 → (x.toInt = 4 → az_p183 C Q (80, lv, st, h)) ∧ (¬ x.toInt = 4 → az_p183 C Q (93, lv, st, h)))))) := az_wp_iff.trans (az_sel_iff (K := fun t => az_p183 C Q (t, lv, st, h)) _ _ _)
theorem az_s183_52 : az_p183 C Q (52, lv, st, h) ↔ az_ma (lv 0) (fun x => az_p183 C Q (53, lv, x :: st, h)) := az_wp_iff.trans az_go_lda
theorem az_s183_53 {a : Nat} : az_p183 C Q (53, lv, .ref a :: st, h) ↔ az_mf (h.1 a) 11 44 (fun v => az_p183 C Q (56, lv, v :: st, h)) := az_wp_iff.trans az_go_gf
theorem az_s183_56 : az_p183 C Q (56, lv, st, h) ↔ az_mi (lv 1) (fun x => az_p183 C Q (57, lv, .int x :: st, h)) := az_wp_iff.trans az_go_ldi
theorem az_s183_57 {a : Nat} {i : Int32} : az_p183 C Q (57, lv, .int i :: .ref a :: st, h) ↔ az_mr (h.1 a) 0 i.toInt (fun x => az_p183 C Q (58, lv, .int x :: st, h)) := az_wp_iff.trans az_go_ial
theorem az_s183_58 {x : Int32} : az_p183 C Q (58, lv, [.int x], h) ↔ Q (some (.int x)) h := az_wp_iff
theorem az_s183_59 : az_p183 C Q (59, lv, st, h) ↔ az_ma (lv 0) (fun x => az_p183 C Q (60, lv, x :: st, h)) := az_wp_iff.trans az_go_lda
theorem az_s183_60 {a : Nat} : az_p183 C Q (60, lv, .ref a :: st, h) ↔ az_mf (h.1 a) 11 45 (fun v => az_p183 C Q (63, lv, v :: st, h)) := az_wp_iff.trans az_go_gf
theorem az_s183_63 : az_p183 C Q (63, lv, st, h) ↔ az_mi (lv 1) (fun x => az_p183 C Q (64, lv, .int x :: st, h)) := az_wp_iff.trans az_go_ldi
theorem az_s183_64 {a : Nat} {i : Int32} : az_p183 C Q (64, lv, .int i :: .ref a :: st, h) ↔ az_mr (h.1 a) 0 i.toInt (fun x => az_p183 C Q (65, lv, .int x :: st, h)) := az_wp_iff.trans az_go_ial
theorem az_s183_65 {x : Int32} : az_p183 C Q (65, lv, [.int x], h) ↔ Q (some (.int x)) h := az_wp_iff
theorem az_s183_66 : az_p183 C Q (66, lv, st, h) ↔ az_ma (lv 0) (fun x => az_p183 C Q (67, lv, x :: st, h)) := az_wp_iff.trans az_go_lda
theorem az_s183_67 {a : Nat} : az_p183 C Q (67, lv, .ref a :: st, h) ↔ az_mf (h.1 a) 11 46 (fun v => az_p183 C Q (70, lv, v :: st, h)) := az_wp_iff.trans az_go_gf
theorem az_s183_70 : az_p183 C Q (70, lv, st, h) ↔ az_mi (lv 1) (fun x => az_p183 C Q (71, lv, .int x :: st, h)) := az_wp_iff.trans az_go_ldi
theorem az_s183_71 {a : Nat} {i : Int32} : az_p183 C Q (71, lv, .int i :: .ref a :: st, h) ↔ az_mr (h.1 a) 0 i.toInt (fun x => az_p183 C Q (72, lv, .int x :: st, h)) := az_wp_iff.trans az_go_ial
theorem az_s183_72 {x : Int32} : az_p183 C Q (72, lv, [.int x], h) ↔ Q (some (.int x)) h := az_wp_iff
theorem az_s183_73 : az_p183 C Q (73, lv, st, h) ↔ az_ma (lv 0) (fun x => az_p183 C Q (74, lv, x :: st, h)) := az_wp_iff.trans az_go_lda
theorem az_s183_74 {a : Nat} : az_p183 C Q (74, lv, .ref a :: st, h) ↔ az_mf (h.1 a) 11 47 (fun v => az_p183 C Q (77, lv, v :: st, h)) := az_wp_iff.trans az_go_gf
theorem az_s183_77 : az_p183 C Q (77, lv, st, h) ↔ az_mi (lv 1) (fun x => az_p183 C Q (78, lv, .int x :: st, h)) := az_wp_iff.trans az_go_ldi
theorem az_s183_78 {a : Nat} {i : Int32} : az_p183 C Q (78, lv, .int i :: .ref a :: st, h) ↔ az_mr (h.1 a) 0 i.toInt (fun x => az_p183 C Q (79, lv, .int x :: st, h)) := az_wp_iff.trans az_go_ial
theorem az_s183_79 {x : Int32} : az_p183 C Q (79, lv, [.int x], h) ↔ Q (some (.int x)) h := az_wp_iff
theorem az_s183_80 : az_p183 C Q (80, lv, st, h) ↔ az_ma (lv 0) (fun x => az_p183 C Q (81, lv, x :: st, h)) := az_wp_iff.trans az_go_lda
theorem az_s183_81 {a : Nat} : az_p183 C Q (81, lv, .ref a :: st, h) ↔ az_mf (h.1 a) 11 34 (fun v => az_p183 C Q (84, lv, v :: st, h)) := az_wp_iff.trans az_go_gf
theorem az_s183_84 : az_p183 C Q (84, lv, st, h) ↔ az_ma (lv 0) (fun x => az_p183 C Q (85, lv, x :: st, h)) := az_wp_iff.trans az_go_lda
theorem az_s183_85 {a : Nat} : az_p183 C Q (85, lv, .ref a :: st, h) ↔ az_mf (h.1 a) 11 44 (fun v => az_p183 C Q (88, lv, v :: st, h)) := az_wp_iff.trans az_go_gf
theorem az_s183_88 : az_p183 C Q (88, lv, st, h) ↔ az_mi (lv 1) (fun x => az_p183 C Q (89, lv, .int x :: st, h)) := az_wp_iff.trans az_go_ldi
theorem az_s183_89 {a : Nat} {i : Int32} : az_p183 C Q (89, lv, .int i :: .ref a :: st, h) ↔ az_mr (h.1 a) 0 i.toInt (fun x => az_p183 C Q (90, lv, .int x :: st, h)) := az_wp_iff.trans az_go_ial
theorem az_s183_90 {a : Nat} {i : Int32} : az_p183 C Q (90, lv, .int i :: .ref a :: st, h) ↔ az_mrl (h.1 a) i.toInt (fun x => az_p183 C Q (91, lv, .long x :: st, h)) := az_wp_iff.trans az_go_lal
theorem az_s183_91 {x : Int64} : az_p183 C Q (91, lv, .long x :: st, h) ↔ az_p183 C Q (92, lv, .int x.toInt32 :: st, h) := az_wp_iff
theorem az_s183_92 {x : Int32} : az_p183 C Q (92, lv, [.int x], h) ↔ Q (some (.int x)) h := az_wp_iff
theorem az_s183_93 : az_p183 C Q (93, lv, st, h) ↔ az_p183 C Q (94, lv, .int (Int32.ofInt (-1)) :: st, h) := az_wp_iff
theorem az_s183_94 {x : Int32} : az_p183 C Q (94, lv, [.int x], h) ↔ Q (some (.int x)) h := az_wp_iff
def az_p184 (C : az_Cl) (Q : Option Value → az_H → Prop) : az_S → Prop := az_wp C (fun _ => none) (some .long) (az_fn az_k184) Q
theorem az_s184_0 : az_p184 C Q (0, lv, st, h) ↔ az_p184 C Q (1, lv, .long (Int64.ofInt (0)) :: st, h) := az_wp_iff
theorem az_s184_1 {x : Int64} : az_p184 C Q (1, lv, .long x :: st, h) ↔ az_p184 C Q (2, (az_s2 lv 2 (.long x)), st, h) := az_wp_iff
theorem az_s184_2 : az_p184 C Q (2, lv, st, h) ↔ az_mi (lv 1) (fun x => az_p184 C Q (3, lv, .int x :: st, h)) := az_wp_iff.trans az_go_ldi
theorem az_s184_3 {x : Int32} : az_p184 C Q (3, lv, .int x :: st, h) ↔ (x.toInt = 0 → az_p184 C Q (44, lv, st, h)) ∧ (¬ x.toInt = 0 → (x.toInt = 1 → az_p184 C Q (49, lv, st, h)) ∧ (¬ x.toInt = 1 → (x.toInt = 2 → az_p184 C Q (54, lv, st, h)) ∧ (¬ x.toInt = 2 → (x.toInt = 3 → az_p184 C Q (59, lv, st, h)) ∧ (¬ x.toInt = 3 → (x.toInt = 4 → az_p184 C Q (64, lv, st, h)) ∧ (¬ x.toInt = 4 → (x.toInt = 5 → az_p184 C Q (69, lv, st, h)) ∧ (¬ x.toInt = 5 → (x.toInt = 6 → az_p184 C Q (129, lv, st, h)) ∧ (¬ x.toInt = 6 → az_p184 C Q (170, lv, st, h)))))))) := az_wp_iff.trans (az_sel_iff (K := fun t => az_p184 C Q (t, lv, st, h)) _ _ _)
theorem az_s184_44 : az_p184 C Q (44, lv, st, h) ↔ az_ma (lv 0) (fun x => az_p184 C Q (45, lv, x :: st, h)) := az_wp_iff.trans az_go_lda
theorem az_s184_45 {a : Nat} : az_p184 C Q (45, lv, .ref a :: st, h) ↔ az_mf (h.1 a) 11 48 (fun v => az_p184 C Q (48, lv, v :: st, h)) := az_wp_iff.trans az_go_gf
theorem az_s184_48 {x : Int64} : az_p184 C Q (48, lv, [.long x], h) ↔ Q (some (.long x)) h := az_wp_iff
theorem az_s184_49 : az_p184 C Q (49, lv, st, h) ↔ az_ma (lv 0) (fun x => az_p184 C Q (50, lv, x :: st, h)) := az_wp_iff.trans az_go_lda
theorem az_s184_50 {a : Nat} : az_p184 C Q (50, lv, .ref a :: st, h) ↔ az_mf (h.1 a) 11 49 (fun v => az_p184 C Q (53, lv, v :: st, h)) := az_wp_iff.trans az_go_gf
theorem az_s184_53 {x : Int64} : az_p184 C Q (53, lv, [.long x], h) ↔ Q (some (.long x)) h := az_wp_iff
theorem az_s184_54 : az_p184 C Q (54, lv, st, h) ↔ az_ma (lv 0) (fun x => az_p184 C Q (55, lv, x :: st, h)) := az_wp_iff.trans az_go_lda
theorem az_s184_55 {a : Nat} : az_p184 C Q (55, lv, .ref a :: st, h) ↔ az_mf (h.1 a) 11 50 (fun v => az_p184 C Q (58, lv, v :: st, h)) := az_wp_iff.trans az_go_gf
theorem az_s184_58 {x : Int64} : az_p184 C Q (58, lv, [.long x], h) ↔ Q (some (.long x)) h := az_wp_iff
theorem az_s184_59 : az_p184 C Q (59, lv, st, h) ↔ az_ma (lv 0) (fun x => az_p184 C Q (60, lv, x :: st, h)) := az_wp_iff.trans az_go_lda
theorem az_s184_60 {a : Nat} : az_p184 C Q (60, lv, .ref a :: st, h) ↔ az_mf (h.1 a) 11 51 (fun v => az_p184 C Q (63, lv, v :: st, h)) := az_wp_iff.trans az_go_gf
theorem az_s184_63 {x : Int64} : az_p184 C Q (63, lv, [.long x], h) ↔ Q (some (.long x)) h := az_wp_iff
theorem az_s184_64 : az_p184 C Q (64, lv, st, h) ↔ az_ma (lv 0) (fun x => az_p184 C Q (65, lv, x :: st, h)) := az_wp_iff.trans az_go_lda
theorem az_s184_65 {a : Nat} : az_p184 C Q (65, lv, .ref a :: st, h) ↔ az_mf (h.1 a) 11 52 (fun v => az_p184 C Q (68, lv, v :: st, h)) := az_wp_iff.trans az_go_gf
theorem az_s184_68 {x : Int64} : az_p184 C Q (68, lv, [.long x], h) ↔ Q (some (.long x)) h := az_wp_iff
theorem az_s184_69 : az_p184 C Q (69, lv, st, h) ↔ az_p184 C Q (70, lv, .int (Int32.ofInt (0)) :: st, h) := az_wp_iff
theorem az_s184_70 {x : Int32} : az_p184 C Q (70, lv, .int x :: st, h) ↔ az_p184 C Q (72, (az_s1 lv 4 (.int x)), st, h) := az_wp_iff
theorem az_s184_72 : az_p184 C Q (72, lv, st, h) ↔ az_mi (lv 4) (fun x => az_p184 C Q (74, lv, .int x :: st, h)) := az_wp_iff.trans az_go_ldi
theorem az_s184_74 : az_p184 C Q (74, lv, st, h) ↔ az_p184 C Q (76, lv, .int (Int32.ofInt (16)) :: st, h) := az_wp_iff
theorem az_s184_76 {x y : Int32} : az_p184 C Q (76, lv, .int y :: .int x :: st, h) ↔ (y ≤ x → az_p184 C Q (127, lv, st, h)) ∧ (¬ y ≤ x → az_p184 C Q (79, lv, st, h)) := az_wp_iff.trans (az_go_if2 az_d_eq)
theorem az_s184_79 : az_p184 C Q (79, lv, st, h) ↔ az_p184 C Q (80, lv, .int (Int32.ofInt (0)) :: st, h) := az_wp_iff
theorem az_s184_80 {x : Int32} : az_p184 C Q (80, lv, .int x :: st, h) ↔ az_p184 C Q (82, (az_s1 lv 5 (.int x)), st, h) := az_wp_iff
theorem az_s184_82 : az_p184 C Q (82, lv, st, h) ↔ az_mi (lv 5) (fun x => az_p184 C Q (84, lv, .int x :: st, h)) := az_wp_iff.trans az_go_ldi
theorem az_s184_84 : az_p184 C Q (84, lv, st, h) ↔ az_ma (lv 0) (fun x => az_p184 C Q (85, lv, x :: st, h)) := az_wp_iff.trans az_go_lda
theorem az_s184_85 {a : Nat} : az_p184 C Q (85, lv, .ref a :: st, h) ↔ az_mf (h.1 a) 11 4 (fun v => az_p184 C Q (88, lv, v :: st, h)) := az_wp_iff.trans az_go_gf
theorem az_s184_88 : az_p184 C Q (88, lv, st, h) ↔ az_mi (lv 4) (fun x => az_p184 C Q (90, lv, .int x :: st, h)) := az_wp_iff.trans az_go_ldi
theorem az_s184_90 {a : Nat} {i : Int32} : az_p184 C Q (90, lv, .int i :: .ref a :: st, h) ↔ az_mr (h.1 a) 0 i.toInt (fun x => az_p184 C Q (91, lv, .int x :: st, h)) := az_wp_iff.trans az_go_ial
theorem az_s184_91 {x y : Int32} : az_p184 C Q (91, lv, .int y :: .int x :: st, h) ↔ (y ≤ x → az_p184 C Q (121, lv, st, h)) ∧ (¬ y ≤ x → az_p184 C Q (94, lv, st, h)) := az_wp_iff.trans (az_go_if2 az_d_eq)
theorem az_s184_94 : az_p184 C Q (94, lv, st, h) ↔ az_ml (lv 2) (fun x => az_p184 C Q (95, lv, .long x :: st, h)) := az_wp_iff.trans az_go_ldl
theorem az_s184_95 : az_p184 C Q (95, lv, st, h) ↔ az_ma (lv 0) (fun x => az_p184 C Q (96, lv, x :: st, h)) := az_wp_iff.trans az_go_lda
theorem az_s184_96 {a : Nat} : az_p184 C Q (96, lv, .ref a :: st, h) ↔ az_mf (h.1 a) 11 34 (fun v => az_p184 C Q (99, lv, v :: st, h)) := az_wp_iff.trans az_go_gf
theorem az_s184_99 : az_p184 C Q (99, lv, st, h) ↔ az_ma (lv 0) (fun x => az_p184 C Q (100, lv, x :: st, h)) := az_wp_iff.trans az_go_lda
theorem az_s184_100 {a : Nat} : az_p184 C Q (100, lv, .ref a :: st, h) ↔ az_mf (h.1 a) 11 5 (fun v => az_p184 C Q (103, lv, v :: st, h)) := az_wp_iff.trans az_go_gf
theorem az_s184_103 : az_p184 C Q (103, lv, st, h) ↔ az_p184 C Q (105, lv, .int (Int32.ofInt (40)) :: st, h) := az_wp_iff
theorem az_s184_105 : az_p184 C Q (105, lv, st, h) ↔ az_mi (lv 4) (fun x => az_p184 C Q (107, lv, .int x :: st, h)) := az_wp_iff.trans az_go_ldi
theorem az_s184_107 {x y : Int32} : az_p184 C Q (107, lv, .int y :: .int x :: st, h) ↔ az_p184 C Q (108, lv, .int (x * y) :: st, h) := az_wp_iff
theorem az_s184_108 : az_p184 C Q (108, lv, st, h) ↔ az_mi (lv 5) (fun x => az_p184 C Q (110, lv, .int x :: st, h)) := az_wp_iff.trans az_go_ldi
theorem az_s184_110 {x y : Int32} : az_p184 C Q (110, lv, .int y :: .int x :: st, h) ↔ az_p184 C Q (111, lv, .int (x + y) :: st, h) := az_wp_iff
theorem az_s184_111 {a : Nat} {i : Int32} : az_p184 C Q (111, lv, .int i :: .ref a :: st, h) ↔ az_mr (h.1 a) 0 i.toInt (fun x => az_p184 C Q (112, lv, .int x :: st, h)) := az_wp_iff.trans az_go_ial
theorem az_s184_112 {a : Nat} {i : Int32} : az_p184 C Q (112, lv, .int i :: .ref a :: st, h) ↔ az_mrl (h.1 a) i.toInt (fun x => az_p184 C Q (113, lv, .long x :: st, h)) := az_wp_iff.trans az_go_lal
theorem az_s184_113 {x y : Int64} : az_p184 C Q (113, lv, .long y :: .long x :: st, h) ↔ az_p184 C Q (114, lv, .long (x + y) :: st, h) := az_wp_iff
theorem az_s184_114 {x : Int64} : az_p184 C Q (114, lv, .long x :: st, h) ↔ az_p184 C Q (115, (az_s2 lv 2 (.long x)), st, h) := az_wp_iff
theorem az_s184_115 : az_p184 C Q (115, lv, st, h) ↔ az_mi (lv 5) (fun x => az_p184 C Q (118, (az_s1 lv 5 (.int (x + Int32.ofInt (1)))), st, h)) := az_wp_iff.trans az_go_inc
theorem az_s184_118 : az_p184 C Q (118, lv, st, h) ↔ az_p184 C Q (82, lv, st, h) := az_wp_iff
theorem az_s184_121 : az_p184 C Q (121, lv, st, h) ↔ az_mi (lv 4) (fun x => az_p184 C Q (124, (az_s1 lv 4 (.int (x + Int32.ofInt (1)))), st, h)) := az_wp_iff.trans az_go_inc
theorem az_s184_124 : az_p184 C Q (124, lv, st, h) ↔ az_p184 C Q (72, lv, st, h) := az_wp_iff
theorem az_s184_127 : az_p184 C Q (127, lv, st, h) ↔ az_ml (lv 2) (fun x => az_p184 C Q (128, lv, .long x :: st, h)) := az_wp_iff.trans az_go_ldl
theorem az_s184_128 {x : Int64} : az_p184 C Q (128, lv, [.long x], h) ↔ Q (some (.long x)) h := az_wp_iff
theorem az_s184_129 : az_p184 C Q (129, lv, st, h) ↔ az_p184 C Q (130, lv, .int (Int32.ofInt (0)) :: st, h) := az_wp_iff
theorem az_s184_130 {x : Int32} : az_p184 C Q (130, lv, .int x :: st, h) ↔ az_p184 C Q (132, (az_s1 lv 4 (.int x)), st, h) := az_wp_iff
theorem az_s184_132 : az_p184 C Q (132, lv, st, h) ↔ az_mi (lv 4) (fun x => az_p184 C Q (134, lv, .int x :: st, h)) := az_wp_iff.trans az_go_ldi
theorem az_s184_134 : az_p184 C Q (134, lv, st, h) ↔ az_p184 C Q (136, lv, .int (Int32.ofInt (12)) :: st, h) := az_wp_iff
theorem az_s184_136 {x y : Int32} : az_p184 C Q (136, lv, .int y :: .int x :: st, h) ↔ (y ≤ x → az_p184 C Q (168, lv, st, h)) ∧ (¬ y ≤ x → az_p184 C Q (139, lv, st, h)) := az_wp_iff.trans (az_go_if2 az_d_eq)
theorem az_s184_139 : az_p184 C Q (139, lv, st, h) ↔ az_ml (lv 2) (fun x => az_p184 C Q (140, lv, .long x :: st, h)) := az_wp_iff.trans az_go_ldl
theorem az_s184_140 : az_p184 C Q (140, lv, st, h) ↔ az_ma (lv 0) (fun x => az_p184 C Q (141, lv, x :: st, h)) := az_wp_iff.trans az_go_lda
theorem az_s184_141 {a : Nat} : az_p184 C Q (141, lv, .ref a :: st, h) ↔ az_mf (h.1 a) 11 7 (fun v => az_p184 C Q (144, lv, v :: st, h)) := az_wp_iff.trans az_go_gf
theorem az_s184_144 : az_p184 C Q (144, lv, st, h) ↔ az_mi (lv 4) (fun x => az_p184 C Q (146, lv, .int x :: st, h)) := az_wp_iff.trans az_go_ldi
theorem az_s184_146 {a : Nat} {i : Int32} : az_p184 C Q (146, lv, .int i :: .ref a :: st, h) ↔ az_mr (h.1 a) 1 i.toInt (fun x => az_p184 C Q (147, lv, .int x :: st, h)) := az_wp_iff.trans az_go_ial
theorem az_s184_147 {x : Int32} : az_p184 C Q (147, lv, .int x :: st, h) ↔ (x = 0 → az_p184 C Q (159, lv, st, h)) ∧ (¬ x = 0 → az_p184 C Q (150, lv, st, h)) := az_wp_iff.trans (az_go_if1 az_d_eq)
theorem az_s184_150 : az_p184 C Q (150, lv, st, h) ↔ az_ma (lv 0) (fun x => az_p184 C Q (151, lv, x :: st, h)) := az_wp_iff.trans az_go_lda
theorem az_s184_151 : az_p184 C Q (151, lv, st, h) ↔ az_mi (lv 4) (fun x => az_p184 C Q (153, lv, .int x :: st, h)) := az_wp_iff.trans az_go_ldi
theorem az_s184_153 {a : Nat} {v1 : Value} : az_p184 C Q (153, lv, v1 :: .ref a :: st, h) ↔ az_isob (h.1 a) 11 = true ∧ az_cat st ≤ 8 ∧ az_mc C 177 [.ref a, v1] h (fun v h' => az_p184 C Q (156, lv, v ++ st, h')) := az_wp_iff.trans (az_go_if.trans (and_congr Iff.rfl az_go_call))
theorem az_s184_156 : az_p184 C Q (156, lv, st, h) ↔ az_p184 C Q (160, lv, st, h) := az_wp_iff
theorem az_s184_159 : az_p184 C Q (159, lv, st, h) ↔ az_p184 C Q (160, lv, .long (Int64.ofInt (0)) :: st, h) := az_wp_iff
theorem az_s184_160 {x y : Int64} : az_p184 C Q (160, lv, .long y :: .long x :: st, h) ↔ az_p184 C Q (161, lv, .long (x + y) :: st, h) := az_wp_iff
theorem az_s184_161 {x : Int64} : az_p184 C Q (161, lv, .long x :: st, h) ↔ az_p184 C Q (162, (az_s2 lv 2 (.long x)), st, h) := az_wp_iff
theorem az_s184_162 : az_p184 C Q (162, lv, st, h) ↔ az_mi (lv 4) (fun x => az_p184 C Q (165, (az_s1 lv 4 (.int (x + Int32.ofInt (1)))), st, h)) := az_wp_iff.trans az_go_inc
theorem az_s184_165 : az_p184 C Q (165, lv, st, h) ↔ az_p184 C Q (132, lv, st, h) := az_wp_iff
theorem az_s184_168 : az_p184 C Q (168, lv, st, h) ↔ az_ml (lv 2) (fun x => az_p184 C Q (169, lv, .long x :: st, h)) := az_wp_iff.trans az_go_ldl
theorem az_s184_169 {x : Int64} : az_p184 C Q (169, lv, [.long x], h) ↔ Q (some (.long x)) h := az_wp_iff
theorem az_s184_170 : az_p184 C Q (170, lv, st, h) ↔ az_p184 C Q (173, lv, .long (Int64.ofInt (-1)) :: st, h) := az_wp_iff
theorem az_s184_173 {x : Int64} : az_p184 C Q (173, lv, [.long x], h) ↔ Q (some (.long x)) h := az_wp_iff
def az_p185 (C : az_Cl) (Q : Option Value → az_H → Prop) : az_S → Prop := az_wp C (fun _ => none) (some .int) (az_fn az_k185) Q
theorem az_s185_0 : az_p185 C Q (0, lv, st, h) ↔ az_ma (lv 0) (fun x => az_p185 C Q (1, lv, x :: st, h)) := az_wp_iff.trans az_go_lda
theorem az_s185_1 {a : Nat} : az_p185 C Q (1, lv, .ref a :: st, h) ↔ az_mf (h.1 a) 11 0 (fun v => az_p185 C Q (4, lv, v :: st, h)) := az_wp_iff.trans az_go_gf
theorem az_s185_4 {x : Int32} : az_p185 C Q (4, lv, .int x :: st, h) ↔ (¬ x = 0 → az_p185 C Q (9, lv, st, h)) ∧ (¬ ¬ x = 0 → az_p185 C Q (7, lv, st, h)) := az_wp_iff.trans (az_go_if1 az_d_eq)
theorem az_s185_7 : az_p185 C Q (7, lv, st, h) ↔ az_p185 C Q (8, lv, .int (Int32.ofInt (-1)) :: st, h) := az_wp_iff
theorem az_s185_8 {x : Int32} : az_p185 C Q (8, lv, [.int x], h) ↔ Q (some (.int x)) h := az_wp_iff
theorem az_s185_9 : az_p185 C Q (9, lv, st, h) ↔ az_p185 C Q (10, lv, .int (Int32.ofInt (0)) :: st, h) := az_wp_iff
theorem az_s185_10 {x : Int32} : az_p185 C Q (10, lv, .int x :: st, h) ↔ az_p185 C Q (11, (az_s1 lv 1 (.int x)), st, h) := az_wp_iff
theorem az_s185_11 : az_p185 C Q (11, lv, st, h) ↔ az_mi (lv 1) (fun x => az_p185 C Q (12, lv, .int x :: st, h)) := az_wp_iff.trans az_go_ldi
theorem az_s185_12 : az_p185 C Q (12, lv, st, h) ↔ az_p185 C Q (14, lv, .int (Int32.ofInt (12)) :: st, h) := az_wp_iff
theorem az_s185_14 {x y : Int32} : az_p185 C Q (14, lv, .int y :: .int x :: st, h) ↔ (y ≤ x → az_p185 C Q (92, lv, st, h)) ∧ (¬ y ≤ x → az_p185 C Q (17, lv, st, h)) := az_wp_iff.trans (az_go_if2 az_d_eq)
theorem az_s185_17 : az_p185 C Q (17, lv, st, h) ↔ az_ma (lv 0) (fun x => az_p185 C Q (18, lv, x :: st, h)) := az_wp_iff.trans az_go_lda
theorem az_s185_18 {a : Nat} : az_p185 C Q (18, lv, .ref a :: st, h) ↔ az_mf (h.1 a) 11 7 (fun v => az_p185 C Q (21, lv, v :: st, h)) := az_wp_iff.trans az_go_gf
theorem az_s185_21 : az_p185 C Q (21, lv, st, h) ↔ az_mi (lv 1) (fun x => az_p185 C Q (22, lv, .int x :: st, h)) := az_wp_iff.trans az_go_ldi
theorem az_s185_22 {a : Nat} {i : Int32} : az_p185 C Q (22, lv, .int i :: .ref a :: st, h) ↔ az_mr (h.1 a) 1 i.toInt (fun x => az_p185 C Q (23, lv, .int x :: st, h)) := az_wp_iff.trans az_go_ial
theorem az_s185_23 {x : Int32} : az_p185 C Q (23, lv, .int x :: st, h) ↔ (¬ x = 0 → az_p185 C Q (29, lv, st, h)) ∧ (¬ ¬ x = 0 → az_p185 C Q (26, lv, st, h)) := az_wp_iff.trans (az_go_if1 az_d_eq)
theorem az_s185_26 : az_p185 C Q (26, lv, st, h) ↔ az_p185 C Q (86, lv, st, h) := az_wp_iff
theorem az_s185_29 : az_p185 C Q (29, lv, st, h) ↔ az_ma (lv 0) (fun x => az_p185 C Q (30, lv, x :: st, h)) := az_wp_iff.trans az_go_lda
theorem az_s185_30 {a : Nat} : az_p185 C Q (30, lv, .ref a :: st, h) ↔ az_mf (h.1 a) 11 18 (fun v => az_p185 C Q (33, lv, v :: st, h)) := az_wp_iff.trans az_go_gf
theorem az_s185_33 : az_p185 C Q (33, lv, st, h) ↔ az_mi (lv 1) (fun x => az_p185 C Q (34, lv, .int x :: st, h)) := az_wp_iff.trans az_go_ldi
theorem az_s185_34 {a : Nat} {i : Int32} : az_p185 C Q (34, lv, .int i :: .ref a :: st, h) ↔ az_mr (h.1 a) 0 i.toInt (fun x => az_p185 C Q (35, lv, .int x :: st, h)) := az_wp_iff.trans az_go_ial
theorem az_s185_35 : az_p185 C Q (35, lv, st, h) ↔ az_p185 C Q (36, lv, .int (Int32.ofInt (1)) :: st, h) := az_wp_iff
theorem az_s185_36 {x y : Int32} : az_p185 C Q (36, lv, .int y :: .int x :: st, h) ↔ (x = y → az_p185 C Q (84, lv, st, h)) ∧ (¬ x = y → az_p185 C Q (39, lv, st, h)) := az_wp_iff.trans (az_go_if2 az_d_eq)
theorem az_s185_39 : az_p185 C Q (39, lv, st, h) ↔ az_ma (lv 0) (fun x => az_p185 C Q (40, lv, x :: st, h)) := az_wp_iff.trans az_go_lda
theorem az_s185_40 {a : Nat} : az_p185 C Q (40, lv, .ref a :: st, h) ↔ az_mf (h.1 a) 11 18 (fun v => az_p185 C Q (43, lv, v :: st, h)) := az_wp_iff.trans az_go_gf
theorem az_s185_43 : az_p185 C Q (43, lv, st, h) ↔ az_mi (lv 1) (fun x => az_p185 C Q (44, lv, .int x :: st, h)) := az_wp_iff.trans az_go_ldi
theorem az_s185_44 {a : Nat} {i : Int32} : az_p185 C Q (44, lv, .int i :: .ref a :: st, h) ↔ az_mr (h.1 a) 0 i.toInt (fun x => az_p185 C Q (45, lv, .int x :: st, h)) := az_wp_iff.trans az_go_ial
theorem az_s185_45 : az_p185 C Q (45, lv, st, h) ↔ az_p185 C Q (46, lv, .int (Int32.ofInt (3)) :: st, h) := az_wp_iff
theorem az_s185_46 {x y : Int32} : az_p185 C Q (46, lv, .int y :: .int x :: st, h) ↔ (x = y → az_p185 C Q (84, lv, st, h)) ∧ (¬ x = y → az_p185 C Q (49, lv, st, h)) := az_wp_iff.trans (az_go_if2 az_d_eq)
theorem az_s185_49 : az_p185 C Q (49, lv, st, h) ↔ az_ma (lv 0) (fun x => az_p185 C Q (50, lv, x :: st, h)) := az_wp_iff.trans az_go_lda
theorem az_s185_50 {a : Nat} : az_p185 C Q (50, lv, .ref a :: st, h) ↔ az_mf (h.1 a) 11 18 (fun v => az_p185 C Q (53, lv, v :: st, h)) := az_wp_iff.trans az_go_gf
theorem az_s185_53 : az_p185 C Q (53, lv, st, h) ↔ az_mi (lv 1) (fun x => az_p185 C Q (54, lv, .int x :: st, h)) := az_wp_iff.trans az_go_ldi
theorem az_s185_54 {a : Nat} {i : Int32} : az_p185 C Q (54, lv, .int i :: .ref a :: st, h) ↔ az_mr (h.1 a) 0 i.toInt (fun x => az_p185 C Q (55, lv, .int x :: st, h)) := az_wp_iff.trans az_go_ial
theorem az_s185_55 {x : Int32} : az_p185 C Q (55, lv, .int x :: st, h) ↔ (¬ x = 0 → az_p185 C Q (66, lv, st, h)) ∧ (¬ ¬ x = 0 → az_p185 C Q (58, lv, st, h)) := az_wp_iff.trans (az_go_if1 az_d_eq)
theorem az_s185_58 : az_p185 C Q (58, lv, st, h) ↔ az_ma (lv 0) (fun x => az_p185 C Q (59, lv, x :: st, h)) := az_wp_iff.trans az_go_lda
theorem az_s185_59 : az_p185 C Q (59, lv, st, h) ↔ az_mi (lv 1) (fun x => az_p185 C Q (60, lv, .int x :: st, h)) := az_wp_iff.trans az_go_ldi
theorem az_s185_60 {a : Nat} {v1 : Value} : az_p185 C Q (60, lv, v1 :: .ref a :: st, h) ↔ az_isob (h.1 a) 11 = true ∧ az_cat st ≤ 8 ∧ az_mc C 170 [.ref a, v1] h (fun v h' => az_p185 C Q (63, lv, v ++ st, h')) := az_wp_iff.trans (az_go_if.trans (and_congr Iff.rfl az_go_call))
theorem az_s185_63 {x : Int32} : az_p185 C Q (63, lv, .int x :: st, h) ↔ (¬ x = 0 → az_p185 C Q (84, lv, st, h)) ∧ (¬ ¬ x = 0 → az_p185 C Q (66, lv, st, h)) := az_wp_iff.trans (az_go_if1 az_d_eq)
theorem az_s185_66 : az_p185 C Q (66, lv, st, h) ↔ az_ma (lv 0) (fun x => az_p185 C Q (67, lv, x :: st, h)) := az_wp_iff.trans az_go_lda
theorem az_s185_67 {a : Nat} : az_p185 C Q (67, lv, .ref a :: st, h) ↔ az_mf (h.1 a) 11 18 (fun v => az_p185 C Q (70, lv, v :: st, h)) := az_wp_iff.trans az_go_gf
theorem az_s185_70 : az_p185 C Q (70, lv, st, h) ↔ az_mi (lv 1) (fun x => az_p185 C Q (71, lv, .int x :: st, h)) := az_wp_iff.trans az_go_ldi
theorem az_s185_71 {a : Nat} {i : Int32} : az_p185 C Q (71, lv, .int i :: .ref a :: st, h) ↔ az_mr (h.1 a) 0 i.toInt (fun x => az_p185 C Q (72, lv, .int x :: st, h)) := az_wp_iff.trans az_go_ial
theorem az_s185_72 : az_p185 C Q (72, lv, st, h) ↔ az_p185 C Q (73, lv, .int (Int32.ofInt (2)) :: st, h) := az_wp_iff
theorem az_s185_73 {x y : Int32} : az_p185 C Q (73, lv, .int y :: .int x :: st, h) ↔ (¬ x = y → az_p185 C Q (86, lv, st, h)) ∧ (¬ ¬ x = y → az_p185 C Q (76, lv, st, h)) := az_wp_iff.trans (az_go_if2 az_d_eq)
theorem az_s185_76 : az_p185 C Q (76, lv, st, h) ↔ az_ma (lv 0) (fun x => az_p185 C Q (77, lv, x :: st, h)) := az_wp_iff.trans az_go_lda
theorem az_s185_77 : az_p185 C Q (77, lv, st, h) ↔ az_mi (lv 1) (fun x => az_p185 C Q (78, lv, .int x :: st, h)) := az_wp_iff.trans az_go_ldi
theorem az_s185_78 {a : Nat} {v1 : Value} : az_p185 C Q (78, lv, v1 :: .ref a :: st, h) ↔ az_isob (h.1 a) 11 = true ∧ az_cat st ≤ 8 ∧ az_mc C 168 [.ref a, v1] h (fun v h' => az_p185 C Q (81, lv, v ++ st, h')) := az_wp_iff.trans (az_go_if.trans (and_congr Iff.rfl az_go_call))
theorem az_s185_81 {x : Int32} : az_p185 C Q (81, lv, .int x :: st, h) ↔ (x = 0 → az_p185 C Q (86, lv, st, h)) ∧ (¬ x = 0 → az_p185 C Q (84, lv, st, h)) := az_wp_iff.trans (az_go_if1 az_d_eq)
theorem az_s185_84 : az_p185 C Q (84, lv, st, h) ↔ az_p185 C Q (85, lv, .int (Int32.ofInt (0)) :: st, h) := az_wp_iff
theorem az_s185_85 {x : Int32} : az_p185 C Q (85, lv, [.int x], h) ↔ Q (some (.int x)) h := az_wp_iff
theorem az_s185_86 : az_p185 C Q (86, lv, st, h) ↔ az_mi (lv 1) (fun x => az_p185 C Q (89, (az_s1 lv 1 (.int (x + Int32.ofInt (1)))), st, h)) := az_wp_iff.trans az_go_inc
theorem az_s185_89 : az_p185 C Q (89, lv, st, h) ↔ az_p185 C Q (11, lv, st, h) := az_wp_iff
theorem az_s185_92 : az_p185 C Q (92, lv, st, h) ↔ az_p185 C Q (93, lv, .int (Int32.ofInt (1)) :: st, h) := az_wp_iff
theorem az_s185_93 {x : Int32} : az_p185 C Q (93, lv, [.int x], h) ↔ Q (some (.int x)) h := az_wp_iff
def az_p186 (C : az_Cl) (Q : Option Value → az_H → Prop) : az_S → Prop := az_wp C (fun _ => none) (some .boolean) (az_fn az_k186) Q
theorem az_s186_0 : az_p186 C Q (0, lv, st, h) ↔ az_ma (lv 0) (fun x => az_p186 C Q (1, lv, x :: st, h)) := az_wp_iff.trans az_go_lda
theorem az_s186_1 {a : Nat} : az_p186 C Q (1, lv, .ref a :: st, h) ↔ az_mf (h.1 a) 11 7 (fun v => az_p186 C Q (4, lv, v :: st, h)) := az_wp_iff.trans az_go_gf
theorem az_s186_4 : az_p186 C Q (4, lv, st, h) ↔ az_mi (lv 1) (fun x => az_p186 C Q (5, lv, .int x :: st, h)) := az_wp_iff.trans az_go_ldi
theorem az_s186_5 {a : Nat} {i : Int32} : az_p186 C Q (5, lv, .int i :: .ref a :: st, h) ↔ az_mr (h.1 a) 1 i.toInt (fun x => az_p186 C Q (6, lv, .int x :: st, h)) := az_wp_iff.trans az_go_ial
theorem az_s186_6 {x : Int32} : az_p186 C Q (6, lv, .int x :: st, h) ↔ (x = 0 → az_p186 C Q (38, lv, st, h)) ∧ (¬ x = 0 → az_p186 C Q (9, lv, st, h)) := az_wp_iff.trans (az_go_if1 az_d_eq)
theorem az_s186_9 : az_p186 C Q (9, lv, st, h) ↔ az_ma (lv 0) (fun x => az_p186 C Q (10, lv, x :: st, h)) := az_wp_iff.trans az_go_lda
theorem az_s186_10 {a : Nat} : az_p186 C Q (10, lv, .ref a :: st, h) ↔ az_mf (h.1 a) 11 7 (fun v => az_p186 C Q (13, lv, v :: st, h)) := az_wp_iff.trans az_go_gf
theorem az_s186_13 : az_p186 C Q (13, lv, st, h) ↔ az_mi (lv 2) (fun x => az_p186 C Q (14, lv, .int x :: st, h)) := az_wp_iff.trans az_go_ldi
theorem az_s186_14 {a : Nat} {i : Int32} : az_p186 C Q (14, lv, .int i :: .ref a :: st, h) ↔ az_mr (h.1 a) 1 i.toInt (fun x => az_p186 C Q (15, lv, .int x :: st, h)) := az_wp_iff.trans az_go_ial
theorem az_s186_15 {x : Int32} : az_p186 C Q (15, lv, .int x :: st, h) ↔ (x = 0 → az_p186 C Q (38, lv, st, h)) ∧ (¬ x = 0 → az_p186 C Q (18, lv, st, h)) := az_wp_iff.trans (az_go_if1 az_d_eq)
theorem az_s186_18 : az_p186 C Q (18, lv, st, h) ↔ az_ma (lv 0) (fun x => az_p186 C Q (19, lv, x :: st, h)) := az_wp_iff.trans az_go_lda
theorem az_s186_19 {a : Nat} : az_p186 C Q (19, lv, .ref a :: st, h) ↔ az_mf (h.1 a) 11 18 (fun v => az_p186 C Q (22, lv, v :: st, h)) := az_wp_iff.trans az_go_gf
theorem az_s186_22 : az_p186 C Q (22, lv, st, h) ↔ az_mi (lv 1) (fun x => az_p186 C Q (23, lv, .int x :: st, h)) := az_wp_iff.trans az_go_ldi
theorem az_s186_23 {a : Nat} {i : Int32} : az_p186 C Q (23, lv, .int i :: .ref a :: st, h) ↔ az_mr (h.1 a) 0 i.toInt (fun x => az_p186 C Q (24, lv, .int x :: st, h)) := az_wp_iff.trans az_go_ial
theorem az_s186_24 : az_p186 C Q (24, lv, st, h) ↔ az_p186 C Q (25, lv, .int (Int32.ofInt (2)) :: st, h) := az_wp_iff
theorem az_s186_25 {x y : Int32} : az_p186 C Q (25, lv, .int y :: .int x :: st, h) ↔ (¬ x = y → az_p186 C Q (38, lv, st, h)) ∧ (¬ ¬ x = y → az_p186 C Q (28, lv, st, h)) := az_wp_iff.trans (az_go_if2 az_d_eq)
theorem az_s186_28 : az_p186 C Q (28, lv, st, h) ↔ az_ma (lv 0) (fun x => az_p186 C Q (29, lv, x :: st, h)) := az_wp_iff.trans az_go_lda
theorem az_s186_29 {a : Nat} : az_p186 C Q (29, lv, .ref a :: st, h) ↔ az_mf (h.1 a) 11 18 (fun v => az_p186 C Q (32, lv, v :: st, h)) := az_wp_iff.trans az_go_gf
theorem az_s186_32 : az_p186 C Q (32, lv, st, h) ↔ az_mi (lv 2) (fun x => az_p186 C Q (33, lv, .int x :: st, h)) := az_wp_iff.trans az_go_ldi
theorem az_s186_33 {a : Nat} {i : Int32} : az_p186 C Q (33, lv, .int i :: .ref a :: st, h) ↔ az_mr (h.1 a) 0 i.toInt (fun x => az_p186 C Q (34, lv, .int x :: st, h)) := az_wp_iff.trans az_go_ial
theorem az_s186_34 : az_p186 C Q (34, lv, st, h) ↔ az_p186 C Q (35, lv, .int (Int32.ofInt (2)) :: st, h) := az_wp_iff
theorem az_s186_35 {x y : Int32} : az_p186 C Q (35, lv, .int y :: .int x :: st, h) ↔ (x = y → az_p186 C Q (40, lv, st, h)) ∧ (¬ x = y → az_p186 C Q (38, lv, st, h)) := az_wp_iff.trans (az_go_if2 az_d_eq)
theorem az_s186_38 : az_p186 C Q (38, lv, st, h) ↔ az_p186 C Q (39, lv, .int (Int32.ofInt (0)) :: st, h) := az_wp_iff
theorem az_s186_39 {x : Int32} : az_p186 C Q (39, lv, [.int x], h) ↔ (x = 0 ∨ x = 1) ∧ Q (some (.int x)) h := az_wp_iff.trans az_go_if
theorem az_s186_40 : az_p186 C Q (40, lv, st, h) ↔ az_p186 C Q (41, lv, .int (Int32.ofInt (0)) :: st, h) := az_wp_iff
theorem az_s186_41 {x : Int32} : az_p186 C Q (41, lv, .int x :: st, h) ↔ az_p186 C Q (42, (az_s1 lv 3 (.int x)), st, h) := az_wp_iff
theorem az_s186_42 : az_p186 C Q (42, lv, st, h) ↔ az_mi (lv 3) (fun x => az_p186 C Q (43, lv, .int x :: st, h)) := az_wp_iff.trans az_go_ldi
theorem az_s186_43 : az_p186 C Q (43, lv, st, h) ↔ az_ma (lv 0) (fun x => az_p186 C Q (44, lv, x :: st, h)) := az_wp_iff.trans az_go_lda
theorem az_s186_44 {a : Nat} : az_p186 C Q (44, lv, .ref a :: st, h) ↔ az_mf (h.1 a) 11 23 (fun v => az_p186 C Q (47, lv, v :: st, h)) := az_wp_iff.trans az_go_gf
theorem az_s186_47 : az_p186 C Q (47, lv, st, h) ↔ az_mi (lv 1) (fun x => az_p186 C Q (48, lv, .int x :: st, h)) := az_wp_iff.trans az_go_ldi
theorem az_s186_48 {a : Nat} {i : Int32} : az_p186 C Q (48, lv, .int i :: .ref a :: st, h) ↔ az_mr (h.1 a) 0 i.toInt (fun x => az_p186 C Q (49, lv, .int x :: st, h)) := az_wp_iff.trans az_go_ial
theorem az_s186_49 {x y : Int32} : az_p186 C Q (49, lv, .int y :: .int x :: st, h) ↔ (y ≤ x → az_p186 C Q (96, lv, st, h)) ∧ (¬ y ≤ x → az_p186 C Q (52, lv, st, h)) := az_wp_iff.trans (az_go_if2 az_d_eq)
theorem az_s186_52 : az_p186 C Q (52, lv, st, h) ↔ az_ma (lv 0) (fun x => az_p186 C Q (53, lv, x :: st, h)) := az_wp_iff.trans az_go_lda
theorem az_s186_53 : az_p186 C Q (53, lv, st, h) ↔ az_mi (lv 1) (fun x => az_p186 C Q (54, lv, .int x :: st, h)) := az_wp_iff.trans az_go_ldi
theorem az_s186_54 : az_p186 C Q (54, lv, st, h) ↔ az_mi (lv 3) (fun x => az_p186 C Q (55, lv, .int x :: st, h)) := az_wp_iff.trans az_go_ldi
theorem az_s186_55 {a : Nat} {v1 v2 : Value} : az_p186 C Q (55, lv, v2 :: v1 :: .ref a :: st, h) ↔ az_isob (h.1 a) 11 = true ∧ az_cat st ≤ 8 ∧ az_mc C 167 [.ref a, v1, v2] h (fun v h' => az_p186 C Q (58, lv, v ++ st, h')) := az_wp_iff.trans (az_go_if.trans (and_congr Iff.rfl az_go_call))
theorem az_s186_58 {x : Int32} : az_p186 C Q (58, lv, .int x :: st, h) ↔ (x = 0 → az_p186 C Q (90, lv, st, h)) ∧ (¬ x = 0 → az_p186 C Q (61, lv, st, h)) := az_wp_iff.trans (az_go_if1 az_d_eq)
theorem az_s186_61 : az_p186 C Q (61, lv, st, h) ↔ az_ma (lv 0) (fun x => az_p186 C Q (62, lv, x :: st, h)) := az_wp_iff.trans az_go_lda
theorem az_s186_62 : az_p186 C Q (62, lv, st, h) ↔ az_mi (lv 2) (fun x => az_p186 C Q (63, lv, .int x :: st, h)) := az_wp_iff.trans az_go_ldi
theorem az_s186_63 : az_p186 C Q (63, lv, st, h) ↔ az_ma (lv 0) (fun x => az_p186 C Q (64, lv, x :: st, h)) := az_wp_iff.trans az_go_lda
theorem az_s186_64 {a : Nat} : az_p186 C Q (64, lv, .ref a :: st, h) ↔ az_mf (h.1 a) 11 14 (fun v => az_p186 C Q (67, lv, v :: st, h)) := az_wp_iff.trans az_go_gf
theorem az_s186_67 : az_p186 C Q (67, lv, st, h) ↔ az_p186 C Q (68, lv, .int (Int32.ofInt (3)) :: st, h) := az_wp_iff
theorem az_s186_68 : az_p186 C Q (68, lv, st, h) ↔ az_mi (lv 1) (fun x => az_p186 C Q (69, lv, .int x :: st, h)) := az_wp_iff.trans az_go_ldi
theorem az_s186_69 {x y : Int32} : az_p186 C Q (69, lv, .int y :: .int x :: st, h) ↔ az_p186 C Q (70, lv, .int (x * y) :: st, h) := az_wp_iff
theorem az_s186_70 : az_p186 C Q (70, lv, st, h) ↔ az_ma (lv 0) (fun x => az_p186 C Q (71, lv, x :: st, h)) := az_wp_iff.trans az_go_lda
theorem az_s186_71 {a : Nat} : az_p186 C Q (71, lv, .ref a :: st, h) ↔ az_mf (h.1 a) 11 26 (fun v => az_p186 C Q (74, lv, v :: st, h)) := az_wp_iff.trans az_go_gf
theorem az_s186_74 : az_p186 C Q (74, lv, st, h) ↔ az_p186 C Q (75, lv, .int (Int32.ofInt (3)) :: st, h) := az_wp_iff
theorem az_s186_75 : az_p186 C Q (75, lv, st, h) ↔ az_mi (lv 1) (fun x => az_p186 C Q (76, lv, .int x :: st, h)) := az_wp_iff.trans az_go_ldi
theorem az_s186_76 {x y : Int32} : az_p186 C Q (76, lv, .int y :: .int x :: st, h) ↔ az_p186 C Q (77, lv, .int (x * y) :: st, h) := az_wp_iff
theorem az_s186_77 : az_p186 C Q (77, lv, st, h) ↔ az_mi (lv 3) (fun x => az_p186 C Q (78, lv, .int x :: st, h)) := az_wp_iff.trans az_go_ldi
theorem az_s186_78 {x y : Int32} : az_p186 C Q (78, lv, .int y :: .int x :: st, h) ↔ az_p186 C Q (79, lv, .int (x + y) :: st, h) := az_wp_iff
theorem az_s186_79 {a : Nat} {i : Int32} : az_p186 C Q (79, lv, .int i :: .ref a :: st, h) ↔ az_mr (h.1 a) 0 i.toInt (fun x => az_p186 C Q (80, lv, .int x :: st, h)) := az_wp_iff.trans az_go_ial
theorem az_s186_80 {x y : Int32} : az_p186 C Q (80, lv, .int y :: .int x :: st, h) ↔ az_p186 C Q (81, lv, .int (x + y) :: st, h) := az_wp_iff
theorem az_s186_81 {a : Nat} {i : Int32} : az_p186 C Q (81, lv, .int i :: .ref a :: st, h) ↔ az_mr (h.1 a) 0 i.toInt (fun x => az_p186 C Q (82, lv, .int x :: st, h)) := az_wp_iff.trans az_go_ial
theorem az_s186_82 {a : Nat} {v1 v2 : Value} : az_p186 C Q (82, lv, v2 :: v1 :: .ref a :: st, h) ↔ az_isob (h.1 a) 11 = true ∧ az_cat st ≤ 8 ∧ az_mc C 144 [.ref a, v1, v2] h (fun v h' => az_p186 C Q (85, lv, v ++ st, h')) := az_wp_iff.trans (az_go_if.trans (and_congr Iff.rfl az_go_call))
theorem az_s186_85 {x : Int32} : az_p186 C Q (85, lv, .int x :: st, h) ↔ (x = 0 → az_p186 C Q (90, lv, st, h)) ∧ (¬ x = 0 → az_p186 C Q (88, lv, st, h)) := az_wp_iff.trans (az_go_if1 az_d_eq)
theorem az_s186_88 : az_p186 C Q (88, lv, st, h) ↔ az_p186 C Q (89, lv, .int (Int32.ofInt (1)) :: st, h) := az_wp_iff
theorem az_s186_89 {x : Int32} : az_p186 C Q (89, lv, [.int x], h) ↔ (x = 0 ∨ x = 1) ∧ Q (some (.int x)) h := az_wp_iff.trans az_go_if
theorem az_s186_90 : az_p186 C Q (90, lv, st, h) ↔ az_mi (lv 3) (fun x => az_p186 C Q (93, (az_s1 lv 3 (.int (x + Int32.ofInt (1)))), st, h)) := az_wp_iff.trans az_go_inc
theorem az_s186_93 : az_p186 C Q (93, lv, st, h) ↔ az_p186 C Q (42, lv, st, h) := az_wp_iff
theorem az_s186_96 : az_p186 C Q (96, lv, st, h) ↔ az_p186 C Q (97, lv, .int (Int32.ofInt (0)) :: st, h) := az_wp_iff
theorem az_s186_97 {x : Int32} : az_p186 C Q (97, lv, [.int x], h) ↔ (x = 0 ∨ x = 1) ∧ Q (some (.int x)) h := az_wp_iff.trans az_go_if
def az_p187 (C : az_Cl) (Q : Option Value → az_H → Prop) : az_S → Prop := az_wp C (fun _ => none) none (az_fn az_k187) Q
theorem az_s187_0 : az_p187 C Q (0, lv, st, h) ↔ az_p187 C Q (1, lv, .int (Int32.ofInt (0)) :: st, h) := az_wp_iff
theorem az_s187_1 {x : Int32} : az_p187 C Q (1, lv, .int x :: st, h) ↔ az_p187 C Q (2, (az_s1 lv 2 (.int x)), st, h) := az_wp_iff
theorem az_s187_2 : az_p187 C Q (2, lv, st, h) ↔ az_mi (lv 2) (fun x => az_p187 C Q (3, lv, .int x :: st, h)) := az_wp_iff.trans az_go_ldi
theorem az_s187_3 : az_p187 C Q (3, lv, st, h) ↔ az_p187 C Q (5, lv, .int (Int32.ofInt (12)) :: st, h) := az_wp_iff
theorem az_s187_5 {x y : Int32} : az_p187 C Q (5, lv, .int y :: .int x :: st, h) ↔ (y ≤ x → az_p187 C Q (22, lv, st, h)) ∧ (¬ y ≤ x → az_p187 C Q (8, lv, st, h)) := az_wp_iff.trans (az_go_if2 az_d_eq)
theorem az_s187_8 : az_p187 C Q (8, lv, st, h) ↔ az_ma (lv 0) (fun x => az_p187 C Q (9, lv, x :: st, h)) := az_wp_iff.trans az_go_lda
theorem az_s187_9 {a : Nat} : az_p187 C Q (9, lv, .ref a :: st, h) ↔ az_mf (h.1 a) 11 54 (fun v => az_p187 C Q (12, lv, v :: st, h)) := az_wp_iff.trans az_go_gf
theorem az_s187_12 : az_p187 C Q (12, lv, st, h) ↔ az_mi (lv 2) (fun x => az_p187 C Q (13, lv, .int x :: st, h)) := az_wp_iff.trans az_go_ldi
theorem az_s187_13 : az_p187 C Q (13, lv, st, h) ↔ az_p187 C Q (15, lv, .int (Int32.ofInt (100)) :: st, h) := az_wp_iff
theorem az_s187_15 {a : Nat} {i x : Int32} : az_p187 C Q (15, lv, .int x :: .int i :: .ref a :: st, h) ↔ az_mw' (h.1 a) i.toInt x (fun c => az_p187 C Q (16, lv, st, az_uh h a c)) := az_wp_iff.trans az_go_ias
theorem az_s187_16 : az_p187 C Q (16, lv, st, h) ↔ az_mi (lv 2) (fun x => az_p187 C Q (19, (az_s1 lv 2 (.int (x + Int32.ofInt (1)))), st, h)) := az_wp_iff.trans az_go_inc
theorem az_s187_19 : az_p187 C Q (19, lv, st, h) ↔ az_p187 C Q (2, lv, st, h) := az_wp_iff
theorem az_s187_22 : az_p187 C Q (22, lv, st, h) ↔ az_p187 C Q (23, lv, .int (Int32.ofInt (1)) :: st, h) := az_wp_iff
theorem az_s187_23 {x : Int32} : az_p187 C Q (23, lv, .int x :: st, h) ↔ az_p187 C Q (24, (az_s1 lv 2 (.int x)), st, h) := az_wp_iff
theorem az_s187_24 : az_p187 C Q (24, lv, st, h) ↔ az_mi (lv 2) (fun x => az_p187 C Q (25, lv, .int x :: st, h)) := az_wp_iff.trans az_go_ldi
theorem az_s187_25 : az_p187 C Q (25, lv, st, h) ↔ az_p187 C Q (27, lv, .int (Int32.ofInt (12)) :: st, h) := az_wp_iff
theorem az_s187_27 {x y : Int32} : az_p187 C Q (27, lv, .int y :: .int x :: st, h) ↔ (y < x → az_p187 C Q (124, lv, st, h)) ∧ (¬ y < x → az_p187 C Q (30, lv, st, h)) := az_wp_iff.trans (az_go_if2 az_d_eq)
theorem az_s187_30 : az_p187 C Q (30, lv, st, h) ↔ az_p187 C Q (31, lv, .int (Int32.ofInt (0)) :: st, h) := az_wp_iff
theorem az_s187_31 {x : Int32} : az_p187 C Q (31, lv, .int x :: st, h) ↔ az_p187 C Q (32, (az_s1 lv 3 (.int x)), st, h) := az_wp_iff
theorem az_s187_32 : az_p187 C Q (32, lv, st, h) ↔ az_mi (lv 3) (fun x => az_p187 C Q (33, lv, .int x :: st, h)) := az_wp_iff.trans az_go_ldi
theorem az_s187_33 : az_p187 C Q (33, lv, st, h) ↔ az_p187 C Q (35, lv, .int (Int32.ofInt (12)) :: st, h) := az_wp_iff
theorem az_s187_35 {x y : Int32} : az_p187 C Q (35, lv, .int y :: .int x :: st, h) ↔ (y ≤ x → az_p187 C Q (118, lv, st, h)) ∧ (¬ y ≤ x → az_p187 C Q (38, lv, st, h)) := az_wp_iff.trans (az_go_if2 az_d_eq)
theorem az_s187_38 : az_p187 C Q (38, lv, st, h) ↔ az_ma (lv 0) (fun x => az_p187 C Q (39, lv, x :: st, h)) := az_wp_iff.trans az_go_lda
theorem az_s187_39 {a : Nat} : az_p187 C Q (39, lv, .ref a :: st, h) ↔ az_mf (h.1 a) 11 54 (fun v => az_p187 C Q (42, lv, v :: st, h)) := az_wp_iff.trans az_go_gf
theorem az_s187_42 : az_p187 C Q (42, lv, st, h) ↔ az_mi (lv 3) (fun x => az_p187 C Q (43, lv, .int x :: st, h)) := az_wp_iff.trans az_go_ldi
theorem az_s187_43 {a : Nat} {i : Int32} : az_p187 C Q (43, lv, .int i :: .ref a :: st, h) ↔ az_mr (h.1 a) 0 i.toInt (fun x => az_p187 C Q (44, lv, .int x :: st, h)) := az_wp_iff.trans az_go_ial
theorem az_s187_44 : az_p187 C Q (44, lv, st, h) ↔ az_p187 C Q (46, lv, .int (Int32.ofInt (100)) :: st, h) := az_wp_iff
theorem az_s187_46 {x y : Int32} : az_p187 C Q (46, lv, .int y :: .int x :: st, h) ↔ (y ≤ x → az_p187 C Q (52, lv, st, h)) ∧ (¬ y ≤ x → az_p187 C Q (49, lv, st, h)) := az_wp_iff.trans (az_go_if2 az_d_eq)
theorem az_s187_49 : az_p187 C Q (49, lv, st, h) ↔ az_p187 C Q (112, lv, st, h) := az_wp_iff
theorem az_s187_52 : az_p187 C Q (52, lv, st, h) ↔ az_p187 C Q (53, lv, .int (Int32.ofInt (0)) :: st, h) := az_wp_iff
theorem az_s187_53 {x : Int32} : az_p187 C Q (53, lv, .int x :: st, h) ↔ az_p187 C Q (55, (az_s1 lv 4 (.int x)), st, h) := az_wp_iff
theorem az_s187_55 : az_p187 C Q (55, lv, st, h) ↔ az_mi (lv 4) (fun x => az_p187 C Q (57, lv, .int x :: st, h)) := az_wp_iff.trans az_go_ldi
theorem az_s187_57 : az_p187 C Q (57, lv, st, h) ↔ az_p187 C Q (59, lv, .int (Int32.ofInt (12)) :: st, h) := az_wp_iff
theorem az_s187_59 {x y : Int32} : az_p187 C Q (59, lv, .int y :: .int x :: st, h) ↔ (y ≤ x → az_p187 C Q (112, lv, st, h)) ∧ (¬ y ≤ x → az_p187 C Q (62, lv, st, h)) := az_wp_iff.trans (az_go_if2 az_d_eq)
theorem az_s187_62 : az_p187 C Q (62, lv, st, h) ↔ az_ma (lv 0) (fun x => az_p187 C Q (63, lv, x :: st, h)) := az_wp_iff.trans az_go_lda
theorem az_s187_63 : az_p187 C Q (63, lv, st, h) ↔ az_mi (lv 3) (fun x => az_p187 C Q (64, lv, .int x :: st, h)) := az_wp_iff.trans az_go_ldi
theorem az_s187_64 : az_p187 C Q (64, lv, st, h) ↔ az_mi (lv 4) (fun x => az_p187 C Q (66, lv, .int x :: st, h)) := az_wp_iff.trans az_go_ldi
theorem az_s187_66 {a : Nat} {v1 v2 : Value} : az_p187 C Q (66, lv, v2 :: v1 :: .ref a :: st, h) ↔ az_isob (h.1 a) 11 = true ∧ az_cat st ≤ 8 ∧ az_mc C 186 [.ref a, v1, v2] h (fun v h' => az_p187 C Q (69, lv, v ++ st, h')) := az_wp_iff.trans (az_go_if.trans (and_congr Iff.rfl az_go_call))
theorem az_s187_69 {x : Int32} : az_p187 C Q (69, lv, .int x :: st, h) ↔ (x = 0 → az_p187 C Q (106, lv, st, h)) ∧ (¬ x = 0 → az_p187 C Q (72, lv, st, h)) := az_wp_iff.trans (az_go_if1 az_d_eq)
theorem az_s187_72 : az_p187 C Q (72, lv, st, h) ↔ az_mi (lv 2) (fun x => az_p187 C Q (73, lv, .int x :: st, h)) := az_wp_iff.trans az_go_ldi
theorem az_s187_73 : az_p187 C Q (73, lv, st, h) ↔ az_p187 C Q (74, lv, .int (Int32.ofInt (1)) :: st, h) := az_wp_iff
theorem az_s187_74 {x y : Int32} : az_p187 C Q (74, lv, .int y :: .int x :: st, h) ↔ (¬ x = y → az_p187 C Q (86, lv, st, h)) ∧ (¬ ¬ x = y → az_p187 C Q (77, lv, st, h)) := az_wp_iff.trans (az_go_if2 az_d_eq)
theorem az_s187_77 : az_p187 C Q (77, lv, st, h) ↔ az_mi (lv 4) (fun x => az_p187 C Q (79, lv, .int x :: st, h)) := az_wp_iff.trans az_go_ldi
theorem az_s187_79 : az_p187 C Q (79, lv, st, h) ↔ az_mi (lv 1) (fun x => az_p187 C Q (80, lv, .int x :: st, h)) := az_wp_iff.trans az_go_ldi
theorem az_s187_80 {x y : Int32} : az_p187 C Q (80, lv, .int y :: .int x :: st, h) ↔ (¬ x = y → az_p187 C Q (106, lv, st, h)) ∧ (¬ ¬ x = y → az_p187 C Q (83, lv, st, h)) := az_wp_iff.trans (az_go_if2 az_d_eq)
theorem az_s187_83 : az_p187 C Q (83, lv, st, h) ↔ az_p187 C Q (99, lv, st, h) := az_wp_iff
theorem az_s187_86 : az_p187 C Q (86, lv, st, h) ↔ az_ma (lv 0) (fun x => az_p187 C Q (87, lv, x :: st, h)) := az_wp_iff.trans az_go_lda
theorem az_s187_87 {a : Nat} : az_p187 C Q (87, lv, .ref a :: st, h) ↔ az_mf (h.1 a) 11 54 (fun v => az_p187 C Q (90, lv, v :: st, h)) := az_wp_iff.trans az_go_gf
theorem az_s187_90 : az_p187 C Q (90, lv, st, h) ↔ az_mi (lv 4) (fun x => az_p187 C Q (92, lv, .int x :: st, h)) := az_wp_iff.trans az_go_ldi
theorem az_s187_92 {a : Nat} {i : Int32} : az_p187 C Q (92, lv, .int i :: .ref a :: st, h) ↔ az_mr (h.1 a) 0 i.toInt (fun x => az_p187 C Q (93, lv, .int x :: st, h)) := az_wp_iff.trans az_go_ial
theorem az_s187_93 : az_p187 C Q (93, lv, st, h) ↔ az_mi (lv 2) (fun x => az_p187 C Q (94, lv, .int x :: st, h)) := az_wp_iff.trans az_go_ldi
theorem az_s187_94 : az_p187 C Q (94, lv, st, h) ↔ az_p187 C Q (95, lv, .int (Int32.ofInt (1)) :: st, h) := az_wp_iff
theorem az_s187_95 {x y : Int32} : az_p187 C Q (95, lv, .int y :: .int x :: st, h) ↔ az_p187 C Q (96, lv, .int (x - y) :: st, h) := az_wp_iff
theorem az_s187_96 {x y : Int32} : az_p187 C Q (96, lv, .int y :: .int x :: st, h) ↔ (¬ x = y → az_p187 C Q (106, lv, st, h)) ∧ (¬ ¬ x = y → az_p187 C Q (99, lv, st, h)) := az_wp_iff.trans (az_go_if2 az_d_eq)
theorem az_s187_99 : az_p187 C Q (99, lv, st, h) ↔ az_ma (lv 0) (fun x => az_p187 C Q (100, lv, x :: st, h)) := az_wp_iff.trans az_go_lda
theorem az_s187_100 {a : Nat} : az_p187 C Q (100, lv, .ref a :: st, h) ↔ az_mf (h.1 a) 11 54 (fun v => az_p187 C Q (103, lv, v :: st, h)) := az_wp_iff.trans az_go_gf
theorem az_s187_103 : az_p187 C Q (103, lv, st, h) ↔ az_mi (lv 3) (fun x => az_p187 C Q (104, lv, .int x :: st, h)) := az_wp_iff.trans az_go_ldi
theorem az_s187_104 : az_p187 C Q (104, lv, st, h) ↔ az_mi (lv 2) (fun x => az_p187 C Q (105, lv, .int x :: st, h)) := az_wp_iff.trans az_go_ldi
theorem az_s187_105 {a : Nat} {i x : Int32} : az_p187 C Q (105, lv, .int x :: .int i :: .ref a :: st, h) ↔ az_mw' (h.1 a) i.toInt x (fun c => az_p187 C Q (106, lv, st, az_uh h a c)) := az_wp_iff.trans az_go_ias
theorem az_s187_106 : az_p187 C Q (106, lv, st, h) ↔ az_mi (lv 4) (fun x => az_p187 C Q (109, (az_s1 lv 4 (.int (x + Int32.ofInt (1)))), st, h)) := az_wp_iff.trans az_go_inc
theorem az_s187_109 : az_p187 C Q (109, lv, st, h) ↔ az_p187 C Q (55, lv, st, h) := az_wp_iff
theorem az_s187_112 : az_p187 C Q (112, lv, st, h) ↔ az_mi (lv 3) (fun x => az_p187 C Q (115, (az_s1 lv 3 (.int (x + Int32.ofInt (1)))), st, h)) := az_wp_iff.trans az_go_inc
theorem az_s187_115 : az_p187 C Q (115, lv, st, h) ↔ az_p187 C Q (32, lv, st, h) := az_wp_iff
theorem az_s187_118 : az_p187 C Q (118, lv, st, h) ↔ az_mi (lv 2) (fun x => az_p187 C Q (121, (az_s1 lv 2 (.int (x + Int32.ofInt (1)))), st, h)) := az_wp_iff.trans az_go_inc
theorem az_s187_121 : az_p187 C Q (121, lv, st, h) ↔ az_p187 C Q (24, lv, st, h) := az_wp_iff
theorem az_s187_124 : az_p187 C Q (124, lv, [], h) ↔ Q none h := az_wp_iff
def az_p188 (C : az_Cl) (Q : Option Value → az_H → Prop) : az_S → Prop := az_wp C (fun _ => none) (some .int) (az_fn az_k188) Q
theorem az_s188_0 : az_p188 C Q (0, lv, st, h) ↔ az_p188 C Q (2, lv, .int (Int32.ofInt (100)) :: st, h) := az_wp_iff
theorem az_s188_2 {x : Int32} : az_p188 C Q (2, lv, .int x :: st, h) ↔ az_p188 C Q (3, (az_s1 lv 2 (.int x)), st, h) := az_wp_iff
theorem az_s188_3 : az_p188 C Q (3, lv, st, h) ↔ az_p188 C Q (4, lv, .int (Int32.ofInt (-1)) :: st, h) := az_wp_iff
theorem az_s188_4 {x : Int32} : az_p188 C Q (4, lv, .int x :: st, h) ↔ az_p188 C Q (5, (az_s1 lv 3 (.int x)), st, h) := az_wp_iff
theorem az_s188_5 : az_p188 C Q (5, lv, st, h) ↔ az_p188 C Q (6, lv, .int (Int32.ofInt (0)) :: st, h) := az_wp_iff
theorem az_s188_6 {x : Int32} : az_p188 C Q (6, lv, .int x :: st, h) ↔ az_p188 C Q (8, (az_s1 lv 4 (.int x)), st, h) := az_wp_iff
theorem az_s188_8 : az_p188 C Q (8, lv, st, h) ↔ az_mi (lv 4) (fun x => az_p188 C Q (10, lv, .int x :: st, h)) := az_wp_iff.trans az_go_ldi
theorem az_s188_10 : az_p188 C Q (10, lv, st, h) ↔ az_p188 C Q (12, lv, .int (Int32.ofInt (12)) :: st, h) := az_wp_iff
theorem az_s188_12 {x y : Int32} : az_p188 C Q (12, lv, .int y :: .int x :: st, h) ↔ (y ≤ x → az_p188 C Q (52, lv, st, h)) ∧ (¬ y ≤ x → az_p188 C Q (15, lv, st, h)) := az_wp_iff.trans (az_go_if2 az_d_eq)
theorem az_s188_15 : az_p188 C Q (15, lv, st, h) ↔ az_ma (lv 0) (fun x => az_p188 C Q (16, lv, x :: st, h)) := az_wp_iff.trans az_go_lda
theorem az_s188_16 : az_p188 C Q (16, lv, st, h) ↔ az_mi (lv 4) (fun x => az_p188 C Q (18, lv, .int x :: st, h)) := az_wp_iff.trans az_go_ldi
theorem az_s188_18 {a : Nat} {v1 : Value} : az_p188 C Q (18, lv, v1 :: .ref a :: st, h) ↔ az_isob (h.1 a) 11 = true ∧ az_cat st ≤ 8 ∧ az_mc C 187 [.ref a, v1] h (fun v h' => az_p188 C Q (21, lv, v ++ st, h')) := az_wp_iff.trans (az_go_if.trans (and_congr Iff.rfl az_go_call))
theorem az_s188_21 : az_p188 C Q (21, lv, st, h) ↔ az_ma (lv 0) (fun x => az_p188 C Q (22, lv, x :: st, h)) := az_wp_iff.trans az_go_lda
theorem az_s188_22 {a : Nat} : az_p188 C Q (22, lv, .ref a :: st, h) ↔ az_mf (h.1 a) 11 54 (fun v => az_p188 C Q (25, lv, v :: st, h)) := az_wp_iff.trans az_go_gf
theorem az_s188_25 : az_p188 C Q (25, lv, st, h) ↔ az_mi (lv 4) (fun x => az_p188 C Q (27, lv, .int x :: st, h)) := az_wp_iff.trans az_go_ldi
theorem az_s188_27 {a : Nat} {i : Int32} : az_p188 C Q (27, lv, .int i :: .ref a :: st, h) ↔ az_mr (h.1 a) 0 i.toInt (fun x => az_p188 C Q (28, lv, .int x :: st, h)) := az_wp_iff.trans az_go_ial
theorem az_s188_28 : az_p188 C Q (28, lv, st, h) ↔ az_mi (lv 2) (fun x => az_p188 C Q (29, lv, .int x :: st, h)) := az_wp_iff.trans az_go_ldi
theorem az_s188_29 {x y : Int32} : az_p188 C Q (29, lv, .int y :: .int x :: st, h) ↔ (x < y → az_p188 C Q (35, lv, st, h)) ∧ (¬ x < y → az_p188 C Q (32, lv, st, h)) := az_wp_iff.trans (az_go_if2 az_d_eq)
theorem az_s188_32 : az_p188 C Q (32, lv, st, h) ↔ az_p188 C Q (46, lv, st, h) := az_wp_iff
theorem az_s188_35 : az_p188 C Q (35, lv, st, h) ↔ az_ma (lv 0) (fun x => az_p188 C Q (36, lv, x :: st, h)) := az_wp_iff.trans az_go_lda
theorem az_s188_36 {a : Nat} : az_p188 C Q (36, lv, .ref a :: st, h) ↔ az_mf (h.1 a) 11 54 (fun v => az_p188 C Q (39, lv, v :: st, h)) := az_wp_iff.trans az_go_gf
theorem az_s188_39 : az_p188 C Q (39, lv, st, h) ↔ az_mi (lv 4) (fun x => az_p188 C Q (41, lv, .int x :: st, h)) := az_wp_iff.trans az_go_ldi
theorem az_s188_41 {a : Nat} {i : Int32} : az_p188 C Q (41, lv, .int i :: .ref a :: st, h) ↔ az_mr (h.1 a) 0 i.toInt (fun x => az_p188 C Q (42, lv, .int x :: st, h)) := az_wp_iff.trans az_go_ial
theorem az_s188_42 {x : Int32} : az_p188 C Q (42, lv, .int x :: st, h) ↔ az_p188 C Q (43, (az_s1 lv 2 (.int x)), st, h) := az_wp_iff
theorem az_s188_43 : az_p188 C Q (43, lv, st, h) ↔ az_mi (lv 4) (fun x => az_p188 C Q (45, lv, .int x :: st, h)) := az_wp_iff.trans az_go_ldi
theorem az_s188_45 {x : Int32} : az_p188 C Q (45, lv, .int x :: st, h) ↔ az_p188 C Q (46, (az_s1 lv 3 (.int x)), st, h) := az_wp_iff
theorem az_s188_46 : az_p188 C Q (46, lv, st, h) ↔ az_mi (lv 4) (fun x => az_p188 C Q (49, (az_s1 lv 4 (.int (x + Int32.ofInt (1)))), st, h)) := az_wp_iff.trans az_go_inc
theorem az_s188_49 : az_p188 C Q (49, lv, st, h) ↔ az_p188 C Q (8, lv, st, h) := az_wp_iff
theorem az_s188_52 : az_p188 C Q (52, lv, st, h) ↔ az_mi (lv 3) (fun x => az_p188 C Q (53, lv, .int x :: st, h)) := az_wp_iff.trans az_go_ldi
theorem az_s188_53 : az_p188 C Q (53, lv, st, h) ↔ az_p188 C Q (54, lv, .int (Int32.ofInt (-1)) :: st, h) := az_wp_iff
theorem az_s188_54 {x y : Int32} : az_p188 C Q (54, lv, .int y :: .int x :: st, h) ↔ (x = y → az_p188 C Q (68, lv, st, h)) ∧ (¬ x = y → az_p188 C Q (57, lv, st, h)) := az_wp_iff.trans (az_go_if2 az_d_eq)
theorem az_s188_57 : az_p188 C Q (57, lv, st, h) ↔ az_mi (lv 1) (fun x => az_p188 C Q (58, lv, .int x :: st, h)) := az_wp_iff.trans az_go_ldi
theorem az_s188_58 : az_p188 C Q (58, lv, st, h) ↔ az_p188 C Q (59, lv, .int (Int32.ofInt (0)) :: st, h) := az_wp_iff
theorem az_s188_59 : az_p188 C Q (59, lv, st, h) ↔ az_mi (lv 2) (fun x => az_p188 C Q (60, lv, .int x :: st, h)) := az_wp_iff.trans az_go_ldi
theorem az_s188_60 : az_p188 C Q (60, lv, st, h) ↔ az_p188 C Q (61, lv, .int (Int32.ofInt (1)) :: st, h) := az_wp_iff
theorem az_s188_61 {x y : Int32} : az_p188 C Q (61, lv, .int y :: .int x :: st, h) ↔ az_p188 C Q (62, lv, .int (x - y) :: st, h) := az_wp_iff
theorem az_s188_62 {v1 v2 v3 : Value} : az_p188 C Q (62, lv, v3 :: v2 :: v1 :: st, h) ↔ az_cat st ≤ 8 ∧ az_mc C 134 [v1, v2, v3] h (fun v h' => az_p188 C Q (65, lv, v ++ st, h')) := az_wp_iff.trans az_go_call
theorem az_s188_65 {x : Int32} : az_p188 C Q (65, lv, .int x :: st, h) ↔ (¬ x = 0 → az_p188 C Q (70, lv, st, h)) ∧ (¬ ¬ x = 0 → az_p188 C Q (68, lv, st, h)) := az_wp_iff.trans (az_go_if1 az_d_eq)
theorem az_s188_68 : az_p188 C Q (68, lv, st, h) ↔ az_p188 C Q (69, lv, .int (Int32.ofInt (-1)) :: st, h) := az_wp_iff
theorem az_s188_69 {x : Int32} : az_p188 C Q (69, lv, [.int x], h) ↔ Q (some (.int x)) h := az_wp_iff
theorem az_s188_70 : az_p188 C Q (70, lv, st, h) ↔ az_ma (lv 0) (fun x => az_p188 C Q (71, lv, x :: st, h)) := az_wp_iff.trans az_go_lda
theorem az_s188_71 : az_p188 C Q (71, lv, st, h) ↔ az_mi (lv 3) (fun x => az_p188 C Q (72, lv, .int x :: st, h)) := az_wp_iff.trans az_go_ldi
theorem az_s188_72 {a : Nat} {v1 : Value} : az_p188 C Q (72, lv, v1 :: .ref a :: st, h) ↔ az_isob (h.1 a) 11 = true ∧ az_cat st ≤ 8 ∧ az_mc C 187 [.ref a, v1] h (fun v h' => az_p188 C Q (75, lv, v ++ st, h')) := az_wp_iff.trans (az_go_if.trans (and_congr Iff.rfl az_go_call))
theorem az_s188_75 : az_p188 C Q (75, lv, st, h) ↔ az_mi (lv 3) (fun x => az_p188 C Q (76, lv, .int x :: st, h)) := az_wp_iff.trans az_go_ldi
theorem az_s188_76 {x : Int32} : az_p188 C Q (76, lv, .int x :: st, h) ↔ az_p188 C Q (78, (az_s1 lv 4 (.int x)), st, h) := az_wp_iff
theorem az_s188_78 : az_p188 C Q (78, lv, st, h) ↔ az_p188 C Q (79, lv, .int (Int32.ofInt (0)) :: st, h) := az_wp_iff
theorem az_s188_79 {x : Int32} : az_p188 C Q (79, lv, .int x :: st, h) ↔ az_p188 C Q (81, (az_s1 lv 5 (.int x)), st, h) := az_wp_iff
theorem az_s188_81 : az_p188 C Q (81, lv, st, h) ↔ az_mi (lv 5) (fun x => az_p188 C Q (83, lv, .int x :: st, h)) := az_wp_iff.trans az_go_ldi
theorem az_s188_83 : az_p188 C Q (83, lv, st, h) ↔ az_mi (lv 1) (fun x => az_p188 C Q (84, lv, .int x :: st, h)) := az_wp_iff.trans az_go_ldi
theorem az_s188_84 {x y : Int32} : az_p188 C Q (84, lv, .int y :: .int x :: st, h) ↔ (y ≤ x → az_p188 C Q (146, lv, st, h)) ∧ (¬ y ≤ x → az_p188 C Q (87, lv, st, h)) := az_wp_iff.trans (az_go_if2 az_d_eq)
theorem az_s188_87 : az_p188 C Q (87, lv, st, h) ↔ az_p188 C Q (88, lv, .int (Int32.ofInt (-1)) :: st, h) := az_wp_iff
theorem az_s188_88 {x : Int32} : az_p188 C Q (88, lv, .int x :: st, h) ↔ az_p188 C Q (90, (az_s1 lv 6 (.int x)), st, h) := az_wp_iff
theorem az_s188_90 : az_p188 C Q (90, lv, st, h) ↔ az_p188 C Q (92, lv, .int (Int32.ofInt (11)) :: st, h) := az_wp_iff
theorem az_s188_92 {x : Int32} : az_p188 C Q (92, lv, .int x :: st, h) ↔ az_p188 C Q (94, (az_s1 lv 7 (.int x)), st, h) := az_wp_iff
theorem az_s188_94 : az_p188 C Q (94, lv, st, h) ↔ az_mi (lv 7) (fun x => az_p188 C Q (96, lv, .int x :: st, h)) := az_wp_iff.trans az_go_ldi
theorem az_s188_96 {x : Int32} : az_p188 C Q (96, lv, .int x :: st, h) ↔ (x < 0 → az_p188 C Q (136, lv, st, h)) ∧ (¬ x < 0 → az_p188 C Q (99, lv, st, h)) := az_wp_iff.trans (az_go_if1 az_d_eq)
theorem az_s188_99 : az_p188 C Q (99, lv, st, h) ↔ az_ma (lv 0) (fun x => az_p188 C Q (100, lv, x :: st, h)) := az_wp_iff.trans az_go_lda
theorem az_s188_100 : az_p188 C Q (100, lv, st, h) ↔ az_mi (lv 4) (fun x => az_p188 C Q (102, lv, .int x :: st, h)) := az_wp_iff.trans az_go_ldi
theorem az_s188_102 : az_p188 C Q (102, lv, st, h) ↔ az_mi (lv 7) (fun x => az_p188 C Q (104, lv, .int x :: st, h)) := az_wp_iff.trans az_go_ldi
theorem az_s188_104 {a : Nat} {v1 v2 : Value} : az_p188 C Q (104, lv, v2 :: v1 :: .ref a :: st, h) ↔ az_isob (h.1 a) 11 = true ∧ az_cat st ≤ 8 ∧ az_mc C 186 [.ref a, v1, v2] h (fun v h' => az_p188 C Q (107, lv, v ++ st, h')) := az_wp_iff.trans (az_go_if.trans (and_congr Iff.rfl az_go_call))
theorem az_s188_107 {x : Int32} : az_p188 C Q (107, lv, .int x :: st, h) ↔ (x = 0 → az_p188 C Q (130, lv, st, h)) ∧ (¬ x = 0 → az_p188 C Q (110, lv, st, h)) := az_wp_iff.trans (az_go_if1 az_d_eq)
theorem az_s188_110 : az_p188 C Q (110, lv, st, h) ↔ az_ma (lv 0) (fun x => az_p188 C Q (111, lv, x :: st, h)) := az_wp_iff.trans az_go_lda
theorem az_s188_111 {a : Nat} : az_p188 C Q (111, lv, .ref a :: st, h) ↔ az_mf (h.1 a) 11 54 (fun v => az_p188 C Q (114, lv, v :: st, h)) := az_wp_iff.trans az_go_gf
theorem az_s188_114 : az_p188 C Q (114, lv, st, h) ↔ az_mi (lv 7) (fun x => az_p188 C Q (116, lv, .int x :: st, h)) := az_wp_iff.trans az_go_ldi
theorem az_s188_116 {a : Nat} {i : Int32} : az_p188 C Q (116, lv, .int i :: .ref a :: st, h) ↔ az_mr (h.1 a) 0 i.toInt (fun x => az_p188 C Q (117, lv, .int x :: st, h)) := az_wp_iff.trans az_go_ial
theorem az_s188_117 : az_p188 C Q (117, lv, st, h) ↔ az_mi (lv 2) (fun x => az_p188 C Q (118, lv, .int x :: st, h)) := az_wp_iff.trans az_go_ldi
theorem az_s188_118 : az_p188 C Q (118, lv, st, h) ↔ az_p188 C Q (119, lv, .int (Int32.ofInt (1)) :: st, h) := az_wp_iff
theorem az_s188_119 {x y : Int32} : az_p188 C Q (119, lv, .int y :: .int x :: st, h) ↔ az_p188 C Q (120, lv, .int (x - y) :: st, h) := az_wp_iff
theorem az_s188_120 : az_p188 C Q (120, lv, st, h) ↔ az_mi (lv 5) (fun x => az_p188 C Q (122, lv, .int x :: st, h)) := az_wp_iff.trans az_go_ldi
theorem az_s188_122 {x y : Int32} : az_p188 C Q (122, lv, .int y :: .int x :: st, h) ↔ az_p188 C Q (123, lv, .int (x - y) :: st, h) := az_wp_iff
theorem az_s188_123 {x y : Int32} : az_p188 C Q (123, lv, .int y :: .int x :: st, h) ↔ (¬ x = y → az_p188 C Q (130, lv, st, h)) ∧ (¬ ¬ x = y → az_p188 C Q (126, lv, st, h)) := az_wp_iff.trans (az_go_if2 az_d_eq)
theorem az_s188_126 : az_p188 C Q (126, lv, st, h) ↔ az_mi (lv 7) (fun x => az_p188 C Q (128, lv, .int x :: st, h)) := az_wp_iff.trans az_go_ldi
theorem az_s188_128 {x : Int32} : az_p188 C Q (128, lv, .int x :: st, h) ↔ az_p188 C Q (130, (az_s1 lv 6 (.int x)), st, h) := az_wp_iff
theorem az_s188_130 : az_p188 C Q (130, lv, st, h) ↔ az_mi (lv 7) (fun x => az_p188 C Q (133, (az_s1 lv 7 (.int (x + Int32.ofInt (-1)))), st, h)) := az_wp_iff.trans az_go_inc
theorem az_s188_133 : az_p188 C Q (133, lv, st, h) ↔ az_p188 C Q (94, lv, st, h) := az_wp_iff
theorem az_s188_136 : az_p188 C Q (136, lv, st, h) ↔ az_mi (lv 6) (fun x => az_p188 C Q (138, lv, .int x :: st, h)) := az_wp_iff.trans az_go_ldi
theorem az_s188_138 {x : Int32} : az_p188 C Q (138, lv, .int x :: st, h) ↔ az_p188 C Q (140, (az_s1 lv 4 (.int x)), st, h) := az_wp_iff
theorem az_s188_140 : az_p188 C Q (140, lv, st, h) ↔ az_mi (lv 5) (fun x => az_p188 C Q (143, (az_s1 lv 5 (.int (x + Int32.ofInt (1)))), st, h)) := az_wp_iff.trans az_go_inc
theorem az_s188_143 : az_p188 C Q (143, lv, st, h) ↔ az_p188 C Q (81, lv, st, h) := az_wp_iff
theorem az_s188_146 : az_p188 C Q (146, lv, st, h) ↔ az_mi (lv 4) (fun x => az_p188 C Q (148, lv, .int x :: st, h)) := az_wp_iff.trans az_go_ldi
theorem az_s188_148 {x : Int32} : az_p188 C Q (148, lv, [.int x], h) ↔ Q (some (.int x)) h := az_wp_iff
def az_p189 (C : az_Cl) (Q : Option Value → az_H → Prop) : az_S → Prop := az_wp C (fun _ => none) (some .int) (az_fn az_k189) Q
theorem az_s189_0 : az_p189 C Q (0, lv, st, h) ↔ az_p189 C Q (1, lv, .int (Int32.ofInt (0)) :: st, h) := az_wp_iff
theorem az_s189_1 {x : Int32} : az_p189 C Q (1, lv, .int x :: st, h) ↔ az_p189 C Q (2, (az_s1 lv 2 (.int x)), st, h) := az_wp_iff
theorem az_s189_2 : az_p189 C Q (2, lv, st, h) ↔ az_mi (lv 1) (fun x => az_p189 C Q (3, lv, .int x :: st, h)) := az_wp_iff.trans az_go_ldi
theorem az_s189_3 {x : Int32} : az_p189 C Q (3, lv, .int x :: st, h) ↔ (x.toInt = 0 → az_p189 C Q (44, lv, st, h)) ∧ (¬ x.toInt = 0 → (x.toInt = 1 → az_p189 C Q (49, lv, st, h)) ∧ (¬ x.toInt = 1 → (x.toInt = 2 → az_p189 C Q (54, lv, st, h)) ∧ (¬ x.toInt = 2 → (x.toInt = 3 → az_p189 C Q (67, lv, st, h)) ∧ (¬ x.toInt = 3 → (x.toInt = 4 → az_p189 C Q (80, lv, st, h)) ∧ (¬ x.toInt = 4 → (x.toInt = 5 → az_p189 C Q (85, lv, st, h)) ∧ (¬ x.toInt = 5 → (x.toInt = 6 → az_p189 C Q (118, lv, st, h)) ∧ (¬ x.toInt = 6 → az_p189 C Q (153, lv, st, h)))))))) := az_wp_iff.trans (az_sel_iff (K := fun t => az_p189 C Q (t, lv, st, h)) _ _ _)
theorem az_s189_44 : az_p189 C Q (44, lv, st, h) ↔ az_ma (lv 0) (fun x => az_p189 C Q (45, lv, x :: st, h)) := az_wp_iff.trans az_go_lda
theorem az_s189_45 {a : Nat} : az_p189 C Q (45, lv, .ref a :: st, h) ↔ az_mf (h.1 a) 11 2 (fun v => az_p189 C Q (48, lv, v :: st, h)) := az_wp_iff.trans az_go_gf
theorem az_s189_48 {x : Int32} : az_p189 C Q (48, lv, [.int x], h) ↔ Q (some (.int x)) h := az_wp_iff
theorem az_s189_49 : az_p189 C Q (49, lv, st, h) ↔ az_ma (lv 0) (fun x => az_p189 C Q (50, lv, x :: st, h)) := az_wp_iff.trans az_go_lda
theorem az_s189_50 {a : Nat} : az_p189 C Q (50, lv, .ref a :: st, h) ↔ az_mf (h.1 a) 11 33 (fun v => az_p189 C Q (53, lv, v :: st, h)) := az_wp_iff.trans az_go_gf
theorem az_s189_53 {x : Int32} : az_p189 C Q (53, lv, [.int x], h) ↔ Q (some (.int x)) h := az_wp_iff
theorem az_s189_54 : az_p189 C Q (54, lv, st, h) ↔ az_ma (lv 0) (fun x => az_p189 C Q (55, lv, x :: st, h)) := az_wp_iff.trans az_go_lda
theorem az_s189_55 {a : Nat} : az_p189 C Q (55, lv, .ref a :: st, h) ↔ az_mf (h.1 a) 11 0 (fun v => az_p189 C Q (58, lv, v :: st, h)) := az_wp_iff.trans az_go_gf
theorem az_s189_58 {x : Int32} : az_p189 C Q (58, lv, .int x :: st, h) ↔ (x = 0 → az_p189 C Q (65, lv, st, h)) ∧ (¬ x = 0 → az_p189 C Q (61, lv, st, h)) := az_wp_iff.trans (az_go_if1 az_d_eq)
theorem az_s189_61 : az_p189 C Q (61, lv, st, h) ↔ az_p189 C Q (62, lv, .int (Int32.ofInt (1)) :: st, h) := az_wp_iff
theorem az_s189_62 : az_p189 C Q (62, lv, st, h) ↔ az_p189 C Q (66, lv, st, h) := az_wp_iff
theorem az_s189_65 : az_p189 C Q (65, lv, st, h) ↔ az_p189 C Q (66, lv, .int (Int32.ofInt (0)) :: st, h) := az_wp_iff
theorem az_s189_66 {x : Int32} : az_p189 C Q (66, lv, [.int x], h) ↔ Q (some (.int x)) h := az_wp_iff
theorem az_s189_67 : az_p189 C Q (67, lv, st, h) ↔ az_ma (lv 0) (fun x => az_p189 C Q (68, lv, x :: st, h)) := az_wp_iff.trans az_go_lda
theorem az_s189_68 {a : Nat} : az_p189 C Q (68, lv, .ref a :: st, h) ↔ az_mf (h.1 a) 11 1 (fun v => az_p189 C Q (71, lv, v :: st, h)) := az_wp_iff.trans az_go_gf
theorem az_s189_71 {x : Int32} : az_p189 C Q (71, lv, .int x :: st, h) ↔ (x = 0 → az_p189 C Q (78, lv, st, h)) ∧ (¬ x = 0 → az_p189 C Q (74, lv, st, h)) := az_wp_iff.trans (az_go_if1 az_d_eq)
theorem az_s189_74 : az_p189 C Q (74, lv, st, h) ↔ az_p189 C Q (75, lv, .int (Int32.ofInt (1)) :: st, h) := az_wp_iff
theorem az_s189_75 : az_p189 C Q (75, lv, st, h) ↔ az_p189 C Q (79, lv, st, h) := az_wp_iff
theorem az_s189_78 : az_p189 C Q (78, lv, st, h) ↔ az_p189 C Q (79, lv, .int (Int32.ofInt (0)) :: st, h) := az_wp_iff
theorem az_s189_79 {x : Int32} : az_p189 C Q (79, lv, [.int x], h) ↔ Q (some (.int x)) h := az_wp_iff
theorem az_s189_80 : az_p189 C Q (80, lv, st, h) ↔ az_ma (lv 0) (fun x => az_p189 C Q (81, lv, x :: st, h)) := az_wp_iff.trans az_go_lda
theorem az_s189_81 {a : Nat} : az_p189 C Q (81, lv, .ref a :: st, h) ↔ az_mf (h.1 a) 11 43 (fun v => az_p189 C Q (84, lv, v :: st, h)) := az_wp_iff.trans az_go_gf
theorem az_s189_84 {x : Int32} : az_p189 C Q (84, lv, [.int x], h) ↔ Q (some (.int x)) h := az_wp_iff
theorem az_s189_85 : az_p189 C Q (85, lv, st, h) ↔ az_p189 C Q (86, lv, .int (Int32.ofInt (0)) :: st, h) := az_wp_iff
theorem az_s189_86 {x : Int32} : az_p189 C Q (86, lv, .int x :: st, h) ↔ az_p189 C Q (87, (az_s1 lv 3 (.int x)), st, h) := az_wp_iff
theorem az_s189_87 : az_p189 C Q (87, lv, st, h) ↔ az_mi (lv 3) (fun x => az_p189 C Q (88, lv, .int x :: st, h)) := az_wp_iff.trans az_go_ldi
theorem az_s189_88 : az_p189 C Q (88, lv, st, h) ↔ az_p189 C Q (90, lv, .int (Int32.ofInt (12)) :: st, h) := az_wp_iff
theorem az_s189_90 {x y : Int32} : az_p189 C Q (90, lv, .int y :: .int x :: st, h) ↔ (y ≤ x → az_p189 C Q (116, lv, st, h)) ∧ (¬ y ≤ x → az_p189 C Q (93, lv, st, h)) := az_wp_iff.trans (az_go_if2 az_d_eq)
theorem az_s189_93 : az_p189 C Q (93, lv, st, h) ↔ az_mi (lv 2) (fun x => az_p189 C Q (94, lv, .int x :: st, h)) := az_wp_iff.trans az_go_ldi
theorem az_s189_94 : az_p189 C Q (94, lv, st, h) ↔ az_ma (lv 0) (fun x => az_p189 C Q (95, lv, x :: st, h)) := az_wp_iff.trans az_go_lda
theorem az_s189_95 {a : Nat} : az_p189 C Q (95, lv, .ref a :: st, h) ↔ az_mf (h.1 a) 11 7 (fun v => az_p189 C Q (98, lv, v :: st, h)) := az_wp_iff.trans az_go_gf
theorem az_s189_98 : az_p189 C Q (98, lv, st, h) ↔ az_mi (lv 3) (fun x => az_p189 C Q (99, lv, .int x :: st, h)) := az_wp_iff.trans az_go_ldi
theorem az_s189_99 {a : Nat} {i : Int32} : az_p189 C Q (99, lv, .int i :: .ref a :: st, h) ↔ az_mr (h.1 a) 1 i.toInt (fun x => az_p189 C Q (100, lv, .int x :: st, h)) := az_wp_iff.trans az_go_ial
theorem az_s189_100 {x : Int32} : az_p189 C Q (100, lv, .int x :: st, h) ↔ (x = 0 → az_p189 C Q (107, lv, st, h)) ∧ (¬ x = 0 → az_p189 C Q (103, lv, st, h)) := az_wp_iff.trans (az_go_if1 az_d_eq)
theorem az_s189_103 : az_p189 C Q (103, lv, st, h) ↔ az_p189 C Q (104, lv, .int (Int32.ofInt (1)) :: st, h) := az_wp_iff
theorem az_s189_104 : az_p189 C Q (104, lv, st, h) ↔ az_p189 C Q (108, lv, st, h) := az_wp_iff
theorem az_s189_107 : az_p189 C Q (107, lv, st, h) ↔ az_p189 C Q (108, lv, .int (Int32.ofInt (0)) :: st, h) := az_wp_iff
theorem az_s189_108 {x y : Int32} : az_p189 C Q (108, lv, .int y :: .int x :: st, h) ↔ az_p189 C Q (109, lv, .int (x + y) :: st, h) := az_wp_iff
theorem az_s189_109 {x : Int32} : az_p189 C Q (109, lv, .int x :: st, h) ↔ az_p189 C Q (110, (az_s1 lv 2 (.int x)), st, h) := az_wp_iff
theorem az_s189_110 : az_p189 C Q (110, lv, st, h) ↔ az_mi (lv 3) (fun x => az_p189 C Q (113, (az_s1 lv 3 (.int (x + Int32.ofInt (1)))), st, h)) := az_wp_iff.trans az_go_inc
theorem az_s189_113 : az_p189 C Q (113, lv, st, h) ↔ az_p189 C Q (87, lv, st, h) := az_wp_iff
theorem az_s189_116 : az_p189 C Q (116, lv, st, h) ↔ az_mi (lv 2) (fun x => az_p189 C Q (117, lv, .int x :: st, h)) := az_wp_iff.trans az_go_ldi
theorem az_s189_117 {x : Int32} : az_p189 C Q (117, lv, [.int x], h) ↔ Q (some (.int x)) h := az_wp_iff
theorem az_s189_118 : az_p189 C Q (118, lv, st, h) ↔ az_p189 C Q (119, lv, .int (Int32.ofInt (0)) :: st, h) := az_wp_iff
theorem az_s189_119 {x : Int32} : az_p189 C Q (119, lv, .int x :: st, h) ↔ az_p189 C Q (120, (az_s1 lv 3 (.int x)), st, h) := az_wp_iff
theorem az_s189_120 : az_p189 C Q (120, lv, st, h) ↔ az_mi (lv 3) (fun x => az_p189 C Q (121, lv, .int x :: st, h)) := az_wp_iff.trans az_go_ldi
theorem az_s189_121 : az_p189 C Q (121, lv, st, h) ↔ az_ma (lv 0) (fun x => az_p189 C Q (122, lv, x :: st, h)) := az_wp_iff.trans az_go_lda
theorem az_s189_122 {a : Nat} : az_p189 C Q (122, lv, .ref a :: st, h) ↔ az_mf (h.1 a) 11 38 (fun v => az_p189 C Q (125, lv, v :: st, h)) := az_wp_iff.trans az_go_gf
theorem az_s189_125 {x y : Int32} : az_p189 C Q (125, lv, .int y :: .int x :: st, h) ↔ (y ≤ x → az_p189 C Q (151, lv, st, h)) ∧ (¬ y ≤ x → az_p189 C Q (128, lv, st, h)) := az_wp_iff.trans (az_go_if2 az_d_eq)
theorem az_s189_128 : az_p189 C Q (128, lv, st, h) ↔ az_mi (lv 2) (fun x => az_p189 C Q (129, lv, .int x :: st, h)) := az_wp_iff.trans az_go_ldi
theorem az_s189_129 : az_p189 C Q (129, lv, st, h) ↔ az_ma (lv 0) (fun x => az_p189 C Q (130, lv, x :: st, h)) := az_wp_iff.trans az_go_lda
theorem az_s189_130 {a : Nat} : az_p189 C Q (130, lv, .ref a :: st, h) ↔ az_mf (h.1 a) 11 42 (fun v => az_p189 C Q (133, lv, v :: st, h)) := az_wp_iff.trans az_go_gf
theorem az_s189_133 : az_p189 C Q (133, lv, st, h) ↔ az_mi (lv 3) (fun x => az_p189 C Q (134, lv, .int x :: st, h)) := az_wp_iff.trans az_go_ldi
theorem az_s189_134 {a : Nat} {i : Int32} : az_p189 C Q (134, lv, .int i :: .ref a :: st, h) ↔ az_mr (h.1 a) 1 i.toInt (fun x => az_p189 C Q (135, lv, .int x :: st, h)) := az_wp_iff.trans az_go_ial
theorem az_s189_135 {x : Int32} : az_p189 C Q (135, lv, .int x :: st, h) ↔ (x = 0 → az_p189 C Q (142, lv, st, h)) ∧ (¬ x = 0 → az_p189 C Q (138, lv, st, h)) := az_wp_iff.trans (az_go_if1 az_d_eq)
theorem az_s189_138 : az_p189 C Q (138, lv, st, h) ↔ az_p189 C Q (139, lv, .int (Int32.ofInt (0)) :: st, h) := az_wp_iff
theorem az_s189_139 : az_p189 C Q (139, lv, st, h) ↔ az_p189 C Q (143, lv, st, h) := az_wp_iff
theorem az_s189_142 : az_p189 C Q (142, lv, st, h) ↔ az_p189 C Q (143, lv, .int (Int32.ofInt (1)) :: st, h) := az_wp_iff
theorem az_s189_143 {x y : Int32} : az_p189 C Q (143, lv, .int y :: .int x :: st, h) ↔ az_p189 C Q (144, lv, .int (x + y) :: st, h) := az_wp_iff
theorem az_s189_144 {x : Int32} : az_p189 C Q (144, lv, .int x :: st, h) ↔ az_p189 C Q (145, (az_s1 lv 2 (.int x)), st, h) := az_wp_iff
theorem az_s189_145 : az_p189 C Q (145, lv, st, h) ↔ az_mi (lv 3) (fun x => az_p189 C Q (148, (az_s1 lv 3 (.int (x + Int32.ofInt (1)))), st, h)) := az_wp_iff.trans az_go_inc
theorem az_s189_148 : az_p189 C Q (148, lv, st, h) ↔ az_p189 C Q (120, lv, st, h) := az_wp_iff
theorem az_s189_151 : az_p189 C Q (151, lv, st, h) ↔ az_mi (lv 2) (fun x => az_p189 C Q (152, lv, .int x :: st, h)) := az_wp_iff.trans az_go_ldi
theorem az_s189_152 {x : Int32} : az_p189 C Q (152, lv, [.int x], h) ↔ Q (some (.int x)) h := az_wp_iff
theorem az_s189_153 : az_p189 C Q (153, lv, st, h) ↔ az_p189 C Q (154, lv, .int (Int32.ofInt (-1)) :: st, h) := az_wp_iff
theorem az_s189_154 {x : Int32} : az_p189 C Q (154, lv, [.int x], h) ↔ Q (some (.int x)) h := az_wp_iff
end AzStM
