-- deps:
section AzStC0
variable {C : az_Cl} {Q : Option Value → az_H → Prop} {lv : az_L} {st : List Value} {h : az_H}
def az_p0 (C : az_Cl) (Q : Option Value → az_H → Prop) : az_S → Prop := az_wp C (fun _ => none) none (az_fn az_k0) Q
theorem az_s0_0 : az_p0 C Q (0, lv, st, h) ↔ az_ma (lv 0) (fun x => az_p0 C Q (1, lv, x :: st, h)) := az_wp_iff.trans az_go_lda
theorem az_s0_1 {a : Nat} : az_p0 C Q (1, lv, .ref a :: st, h) ↔ az_cat st ≤ 8 ∧ az_p0 C Q (4, lv, st, h) := az_wp_iff.trans az_go_if
theorem az_s0_4 : az_p0 C Q (4, lv, st, h) ↔ az_ma (lv 0) (fun x => az_p0 C Q (5, lv, x :: st, h)) := az_wp_iff.trans az_go_lda
theorem az_s0_5 : az_p0 C Q (5, lv, st, h) ↔ az_p0 C Q (7, lv, .int (Int32.ofInt (21)) :: st, h) := az_wp_iff
theorem az_s0_7 {n : Int32} : az_p0 C Q (7, lv, .int n :: st, h) ↔ (0 ≤ n.toInt ∧ n.toInt ≤ 65536) ∧ az_p0 C Q (9, lv, .ref h.2.1 :: st, az_nw h (az_ia 0 n.toInt.toNat (fun _ => 0)) n.toInt.toNat) := az_wp_iff.trans az_go_if
theorem az_s0_9 {a : Nat} {v : Value} : az_p0 C Q (9, lv, v :: .ref a :: st, h) ↔ az_mp (h.1 a) 0 1 3 v (fun c => az_p0 C Q (12, lv, st, az_uh h a c)) := az_wp_iff.trans az_go_pf
theorem az_s0_12 : az_p0 C Q (12, lv, st, h) ↔ az_ma (lv 0) (fun x => az_p0 C Q (13, lv, x :: st, h)) := az_wp_iff.trans az_go_lda
theorem az_s0_13 : az_p0 C Q (13, lv, st, h) ↔ az_mi (lv 1) (fun x => az_p0 C Q (14, lv, .int x :: st, h)) := az_wp_iff.trans az_go_ldi
theorem az_s0_14 {a : Nat} {v : Value} : az_p0 C Q (14, lv, v :: .ref a :: st, h) ↔ az_mp (h.1 a) 0 0 0 v (fun c => az_p0 C Q (17, lv, st, az_uh h a c)) := az_wp_iff.trans az_go_pf
theorem az_s0_17 : az_p0 C Q (17, lv, [], h) ↔ Q none h := az_wp_iff
def az_p1 (C : az_Cl) (Q : Option Value → az_H → Prop) : az_S → Prop := az_wp C (fun _ => none) (some .boolean) (az_fn az_k1) Q
theorem az_s1_0 : az_p1 C Q (0, lv, st, h) ↔ az_ma (lv 0) (fun x => az_p1 C Q (1, lv, x :: st, h)) := az_wp_iff.trans az_go_lda
theorem az_s1_1 {a : Nat} : az_p1 C Q (1, lv, .ref a :: st, h) ↔ az_mf (h.1 a) 0 2 (fun v => az_p1 C Q (4, lv, v :: st, h)) := az_wp_iff.trans az_go_gf
theorem az_s1_4 : az_p1 C Q (4, lv, st, h) ↔ az_mi (lv 1) (fun x => az_p1 C Q (5, lv, .int x :: st, h)) := az_wp_iff.trans az_go_ldi
theorem az_s1_5 {x y : Int32} : az_p1 C Q (5, lv, .int y :: .int x :: st, h) ↔ az_p1 C Q (6, lv, .int (x + y) :: st, h) := az_wp_iff
theorem az_s1_6 : az_p1 C Q (6, lv, st, h) ↔ az_ma (lv 0) (fun x => az_p1 C Q (7, lv, x :: st, h)) := az_wp_iff.trans az_go_lda
theorem az_s1_7 {a : Nat} : az_p1 C Q (7, lv, .ref a :: st, h) ↔ az_mf (h.1 a) 0 0 (fun v => az_p1 C Q (10, lv, v :: st, h)) := az_wp_iff.trans az_go_gf
theorem az_s1_10 {x y : Int32} : az_p1 C Q (10, lv, .int y :: .int x :: st, h) ↔ (y < x → az_p1 C Q (17, lv, st, h)) ∧ (¬ y < x → az_p1 C Q (13, lv, st, h)) := az_wp_iff.trans (az_go_if2 az_d_eq)
theorem az_s1_13 : az_p1 C Q (13, lv, st, h) ↔ az_p1 C Q (14, lv, .int (Int32.ofInt (1)) :: st, h) := az_wp_iff
theorem az_s1_14 : az_p1 C Q (14, lv, st, h) ↔ az_p1 C Q (18, lv, st, h) := az_wp_iff
theorem az_s1_17 : az_p1 C Q (17, lv, st, h) ↔ az_p1 C Q (18, lv, .int (Int32.ofInt (0)) :: st, h) := az_wp_iff
theorem az_s1_18 {x : Int32} : az_p1 C Q (18, lv, [.int x], h) ↔ (x = 0 ∨ x = 1) ∧ Q (some (.int x)) h := az_wp_iff.trans az_go_if
def az_p2 (C : az_Cl) (Q : Option Value → az_H → Prop) : az_S → Prop := az_wp C (fun _ => none) (some .int) (az_fn az_k2) Q
theorem az_s2_0 : az_p2 C Q (0, lv, st, h) ↔ az_mi (lv 1) (fun x => az_p2 C Q (1, lv, .int x :: st, h)) := az_wp_iff.trans az_go_ldi
theorem az_s2_1 {x : Int32} : az_p2 C Q (1, lv, .int x :: st, h) ↔ (x < 0 → az_p2 C Q (30, lv, st, h)) ∧ (¬ x < 0 → az_p2 C Q (4, lv, st, h)) := az_wp_iff.trans (az_go_if1 az_d_eq)
theorem az_s2_4 : az_p2 C Q (4, lv, st, h) ↔ az_mi (lv 1) (fun x => az_p2 C Q (5, lv, .int x :: st, h)) := az_wp_iff.trans az_go_ldi
theorem az_s2_5 : az_p2 C Q (5, lv, st, h) ↔ az_ma (lv 0) (fun x => az_p2 C Q (6, lv, x :: st, h)) := az_wp_iff.trans az_go_lda
theorem az_s2_6 {a : Nat} : az_p2 C Q (6, lv, .ref a :: st, h) ↔ az_mf (h.1 a) 0 2 (fun v => az_p2 C Q (9, lv, v :: st, h)) := az_wp_iff.trans az_go_gf
theorem az_s2_9 {x y : Int32} : az_p2 C Q (9, lv, .int y :: .int x :: st, h) ↔ (y ≤ x → az_p2 C Q (30, lv, st, h)) ∧ (¬ y ≤ x → az_p2 C Q (12, lv, st, h)) := az_wp_iff.trans (az_go_if2 az_d_eq)
theorem az_s2_12 : az_p2 C Q (12, lv, st, h) ↔ az_mi (lv 1) (fun x => az_p2 C Q (13, lv, .int x :: st, h)) := az_wp_iff.trans az_go_ldi
theorem az_s2_13 : az_p2 C Q (13, lv, st, h) ↔ az_ma (lv 0) (fun x => az_p2 C Q (14, lv, x :: st, h)) := az_wp_iff.trans az_go_lda
theorem az_s2_14 {a : Nat} : az_p2 C Q (14, lv, .ref a :: st, h) ↔ az_mf (h.1 a) 0 1 (fun v => az_p2 C Q (17, lv, v :: st, h)) := az_wp_iff.trans az_go_gf
theorem az_s2_17 {a : Nat} : az_p2 C Q (17, lv, .ref a :: st, h) ↔ az_mn (h.1 a) (fun x => az_p2 C Q (18, lv, .int x :: st, h)) := az_wp_iff.trans az_go_aln
theorem az_s2_18 {x y : Int32} : az_p2 C Q (18, lv, .int y :: .int x :: st, h) ↔ (y ≤ x → az_p2 C Q (30, lv, st, h)) ∧ (¬ y ≤ x → az_p2 C Q (21, lv, st, h)) := az_wp_iff.trans (az_go_if2 az_d_eq)
theorem az_s2_21 : az_p2 C Q (21, lv, st, h) ↔ az_ma (lv 0) (fun x => az_p2 C Q (22, lv, x :: st, h)) := az_wp_iff.trans az_go_lda
theorem az_s2_22 {a : Nat} : az_p2 C Q (22, lv, .ref a :: st, h) ↔ az_mf (h.1 a) 0 1 (fun v => az_p2 C Q (25, lv, v :: st, h)) := az_wp_iff.trans az_go_gf
theorem az_s2_25 : az_p2 C Q (25, lv, st, h) ↔ az_mi (lv 1) (fun x => az_p2 C Q (26, lv, .int x :: st, h)) := az_wp_iff.trans az_go_ldi
theorem az_s2_26 {a : Nat} {i : Int32} : az_p2 C Q (26, lv, .int i :: .ref a :: st, h) ↔ az_mr (h.1 a) 0 i.toInt (fun x => az_p2 C Q (27, lv, .int x :: st, h)) := az_wp_iff.trans az_go_ial
theorem az_s2_27 : az_p2 C Q (27, lv, st, h) ↔ az_p2 C Q (31, lv, st, h) := az_wp_iff
theorem az_s2_30 : az_p2 C Q (30, lv, st, h) ↔ az_p2 C Q (31, lv, .int (Int32.ofInt (-1)) :: st, h) := az_wp_iff
theorem az_s2_31 {x : Int32} : az_p2 C Q (31, lv, [.int x], h) ↔ Q (some (.int x)) h := az_wp_iff
def az_p3 (C : az_Cl) (Q : Option Value → az_H → Prop) : az_S → Prop := az_wp C (fun _ => none) none (az_fn az_k3) Q
theorem az_s3_0 : az_p3 C Q (0, lv, st, h) ↔ az_ma (lv 0) (fun x => az_p3 C Q (1, lv, x :: st, h)) := az_wp_iff.trans az_go_lda
theorem az_s3_1 {a : Nat} : az_p3 C Q (1, lv, .ref a :: st, h) ↔ az_mf (h.1 a) 0 2 (fun v => az_p3 C Q (4, lv, v :: st, h)) := az_wp_iff.trans az_go_gf
theorem az_s3_4 {x : Int32} : az_p3 C Q (4, lv, .int x :: st, h) ↔ (x < 0 → az_p3 C Q (39, lv, st, h)) ∧ (¬ x < 0 → az_p3 C Q (7, lv, st, h)) := az_wp_iff.trans (az_go_if1 az_d_eq)
theorem az_s3_7 : az_p3 C Q (7, lv, st, h) ↔ az_ma (lv 0) (fun x => az_p3 C Q (8, lv, x :: st, h)) := az_wp_iff.trans az_go_lda
theorem az_s3_8 {a : Nat} : az_p3 C Q (8, lv, .ref a :: st, h) ↔ az_mf (h.1 a) 0 2 (fun v => az_p3 C Q (11, lv, v :: st, h)) := az_wp_iff.trans az_go_gf
theorem az_s3_11 : az_p3 C Q (11, lv, st, h) ↔ az_ma (lv 0) (fun x => az_p3 C Q (12, lv, x :: st, h)) := az_wp_iff.trans az_go_lda
theorem az_s3_12 {a : Nat} : az_p3 C Q (12, lv, .ref a :: st, h) ↔ az_mf (h.1 a) 0 1 (fun v => az_p3 C Q (15, lv, v :: st, h)) := az_wp_iff.trans az_go_gf
theorem az_s3_15 {a : Nat} : az_p3 C Q (15, lv, .ref a :: st, h) ↔ az_mn (h.1 a) (fun x => az_p3 C Q (16, lv, .int x :: st, h)) := az_wp_iff.trans az_go_aln
theorem az_s3_16 {x y : Int32} : az_p3 C Q (16, lv, .int y :: .int x :: st, h) ↔ (y ≤ x → az_p3 C Q (39, lv, st, h)) ∧ (¬ y ≤ x → az_p3 C Q (19, lv, st, h)) := az_wp_iff.trans (az_go_if2 az_d_eq)
theorem az_s3_19 : az_p3 C Q (19, lv, st, h) ↔ az_ma (lv 0) (fun x => az_p3 C Q (20, lv, x :: st, h)) := az_wp_iff.trans az_go_lda
theorem az_s3_20 {a : Nat} : az_p3 C Q (20, lv, .ref a :: st, h) ↔ az_mf (h.1 a) 0 1 (fun v => az_p3 C Q (23, lv, v :: st, h)) := az_wp_iff.trans az_go_gf
theorem az_s3_23 : az_p3 C Q (23, lv, st, h) ↔ az_ma (lv 0) (fun x => az_p3 C Q (24, lv, x :: st, h)) := az_wp_iff.trans az_go_lda
theorem az_s3_24 {a : Nat} : az_p3 C Q (24, lv, .ref a :: st, h) ↔ az_mf (h.1 a) 0 2 (fun v => az_p3 C Q (27, lv, v :: st, h)) := az_wp_iff.trans az_go_gf
theorem az_s3_27 : az_p3 C Q (27, lv, st, h) ↔ az_mi (lv 1) (fun x => az_p3 C Q (28, lv, .int x :: st, h)) := az_wp_iff.trans az_go_ldi
theorem az_s3_28 {a : Nat} {i x : Int32} : az_p3 C Q (28, lv, .int x :: .int i :: .ref a :: st, h) ↔ az_mw' (h.1 a) i.toInt x (fun c => az_p3 C Q (29, lv, st, az_uh h a c)) := az_wp_iff.trans az_go_ias
theorem az_s3_29 : az_p3 C Q (29, lv, st, h) ↔ az_ma (lv 0) (fun x => az_p3 C Q (30, lv, x :: st, h)) := az_wp_iff.trans az_go_lda
theorem az_s3_30 {x : Int32} : az_p3 C Q (30, lv, .int x :: st, h) ↔ az_p3 C Q (31, lv, .int x :: .int x :: st, h) := az_wp_iff
theorem az_s3_30r {x : Nat} : az_p3 C Q (30, lv, .ref x :: st, h) ↔ az_p3 C Q (31, lv, .ref x :: .ref x :: st, h) := az_wp_iff
theorem az_s3_31 {a : Nat} : az_p3 C Q (31, lv, .ref a :: st, h) ↔ az_mf (h.1 a) 0 2 (fun v => az_p3 C Q (34, lv, v :: st, h)) := az_wp_iff.trans az_go_gf
theorem az_s3_34 : az_p3 C Q (34, lv, st, h) ↔ az_p3 C Q (35, lv, .int (Int32.ofInt (1)) :: st, h) := az_wp_iff
theorem az_s3_35 {x y : Int32} : az_p3 C Q (35, lv, .int y :: .int x :: st, h) ↔ az_p3 C Q (36, lv, .int (x + y) :: st, h) := az_wp_iff
theorem az_s3_36 {a : Nat} {v : Value} : az_p3 C Q (36, lv, v :: .ref a :: st, h) ↔ az_mp (h.1 a) 0 2 0 v (fun c => az_p3 C Q (39, lv, st, az_uh h a c)) := az_wp_iff.trans az_go_pf
theorem az_s3_39 : az_p3 C Q (39, lv, [], h) ↔ Q none h := az_wp_iff
def az_p4 (C : az_Cl) (Q : Option Value → az_H → Prop) : az_S → Prop := az_wp C (fun _ => none) none (az_fn az_k4) Q
theorem az_s4_0 : az_p4 C Q (0, lv, st, h) ↔ az_ma (lv 0) (fun x => az_p4 C Q (1, lv, x :: st, h)) := az_wp_iff.trans az_go_lda
theorem az_s4_1 {a : Nat} : az_p4 C Q (1, lv, .ref a :: st, h) ↔ az_mf (h.1 a) 0 2 (fun v => az_p4 C Q (4, lv, v :: st, h)) := az_wp_iff.trans az_go_gf
theorem az_s4_4 : az_p4 C Q (4, lv, st, h) ↔ az_ma (lv 0) (fun x => az_p4 C Q (5, lv, x :: st, h)) := az_wp_iff.trans az_go_lda
theorem az_s4_5 {a : Nat} : az_p4 C Q (5, lv, .ref a :: st, h) ↔ az_mf (h.1 a) 0 1 (fun v => az_p4 C Q (8, lv, v :: st, h)) := az_wp_iff.trans az_go_gf
theorem az_s4_8 {a : Nat} : az_p4 C Q (8, lv, .ref a :: st, h) ↔ az_mn (h.1 a) (fun x => az_p4 C Q (9, lv, .int x :: st, h)) := az_wp_iff.trans az_go_aln
theorem az_s4_9 {x y : Int32} : az_p4 C Q (9, lv, .int y :: .int x :: st, h) ↔ (x < y → az_p4 C Q (13, lv, st, h)) ∧ (¬ x < y → az_p4 C Q (12, lv, st, h)) := az_wp_iff.trans (az_go_if2 az_d_eq)
theorem az_s4_12 : az_p4 C Q (12, lv, [], h) ↔ Q none h := az_wp_iff
theorem az_s4_13 : az_p4 C Q (13, lv, st, h) ↔ az_ma (lv 0) (fun x => az_p4 C Q (14, lv, x :: st, h)) := az_wp_iff.trans az_go_lda
theorem az_s4_14 {a : Nat} : az_p4 C Q (14, lv, .ref a :: st, h) ↔ az_mf (h.1 a) 0 2 (fun v => az_p4 C Q (17, lv, v :: st, h)) := az_wp_iff.trans az_go_gf
theorem az_s4_17 {x : Int32} : az_p4 C Q (17, lv, .int x :: st, h) ↔ az_p4 C Q (18, (az_s1 lv 2 (.int x)), st, h) := az_wp_iff
theorem az_s4_18 : az_p4 C Q (18, lv, st, h) ↔ az_mi (lv 2) (fun x => az_p4 C Q (19, lv, .int x :: st, h)) := az_wp_iff.trans az_go_ldi
theorem az_s4_19 {x : Int32} : az_p4 C Q (19, lv, .int x :: st, h) ↔ (x ≤ 0 → az_p4 C Q (42, lv, st, h)) ∧ (¬ x ≤ 0 → az_p4 C Q (22, lv, st, h)) := az_wp_iff.trans (az_go_if1 az_d_eq)
theorem az_s4_22 : az_p4 C Q (22, lv, st, h) ↔ az_ma (lv 0) (fun x => az_p4 C Q (23, lv, x :: st, h)) := az_wp_iff.trans az_go_lda
theorem az_s4_23 {a : Nat} : az_p4 C Q (23, lv, .ref a :: st, h) ↔ az_mf (h.1 a) 0 1 (fun v => az_p4 C Q (26, lv, v :: st, h)) := az_wp_iff.trans az_go_gf
theorem az_s4_26 : az_p4 C Q (26, lv, st, h) ↔ az_mi (lv 2) (fun x => az_p4 C Q (27, lv, .int x :: st, h)) := az_wp_iff.trans az_go_ldi
theorem az_s4_27 : az_p4 C Q (27, lv, st, h) ↔ az_ma (lv 0) (fun x => az_p4 C Q (28, lv, x :: st, h)) := az_wp_iff.trans az_go_lda
theorem az_s4_28 {a : Nat} : az_p4 C Q (28, lv, .ref a :: st, h) ↔ az_mf (h.1 a) 0 1 (fun v => az_p4 C Q (31, lv, v :: st, h)) := az_wp_iff.trans az_go_gf
theorem az_s4_31 : az_p4 C Q (31, lv, st, h) ↔ az_mi (lv 2) (fun x => az_p4 C Q (32, lv, .int x :: st, h)) := az_wp_iff.trans az_go_ldi
theorem az_s4_32 : az_p4 C Q (32, lv, st, h) ↔ az_p4 C Q (33, lv, .int (Int32.ofInt (1)) :: st, h) := az_wp_iff
theorem az_s4_33 {x y : Int32} : az_p4 C Q (33, lv, .int y :: .int x :: st, h) ↔ az_p4 C Q (34, lv, .int (x - y) :: st, h) := az_wp_iff
theorem az_s4_34 {a : Nat} {i : Int32} : az_p4 C Q (34, lv, .int i :: .ref a :: st, h) ↔ az_mr (h.1 a) 0 i.toInt (fun x => az_p4 C Q (35, lv, .int x :: st, h)) := az_wp_iff.trans az_go_ial
theorem az_s4_35 {a : Nat} {i x : Int32} : az_p4 C Q (35, lv, .int x :: .int i :: .ref a :: st, h) ↔ az_mw' (h.1 a) i.toInt x (fun c => az_p4 C Q (36, lv, st, az_uh h a c)) := az_wp_iff.trans az_go_ias
theorem az_s4_36 : az_p4 C Q (36, lv, st, h) ↔ az_mi (lv 2) (fun x => az_p4 C Q (39, (az_s1 lv 2 (.int (x + Int32.ofInt (-1)))), st, h)) := az_wp_iff.trans az_go_inc
theorem az_s4_39 : az_p4 C Q (39, lv, st, h) ↔ az_p4 C Q (18, lv, st, h) := az_wp_iff
theorem az_s4_42 : az_p4 C Q (42, lv, st, h) ↔ az_ma (lv 0) (fun x => az_p4 C Q (43, lv, x :: st, h)) := az_wp_iff.trans az_go_lda
theorem az_s4_43 {a : Nat} : az_p4 C Q (43, lv, .ref a :: st, h) ↔ az_mf (h.1 a) 0 1 (fun v => az_p4 C Q (46, lv, v :: st, h)) := az_wp_iff.trans az_go_gf
theorem az_s4_46 : az_p4 C Q (46, lv, st, h) ↔ az_p4 C Q (47, lv, .int (Int32.ofInt (0)) :: st, h) := az_wp_iff
theorem az_s4_47 : az_p4 C Q (47, lv, st, h) ↔ az_mi (lv 1) (fun x => az_p4 C Q (48, lv, .int x :: st, h)) := az_wp_iff.trans az_go_ldi
theorem az_s4_48 {a : Nat} {i x : Int32} : az_p4 C Q (48, lv, .int x :: .int i :: .ref a :: st, h) ↔ az_mw' (h.1 a) i.toInt x (fun c => az_p4 C Q (49, lv, st, az_uh h a c)) := az_wp_iff.trans az_go_ias
theorem az_s4_49 : az_p4 C Q (49, lv, st, h) ↔ az_ma (lv 0) (fun x => az_p4 C Q (50, lv, x :: st, h)) := az_wp_iff.trans az_go_lda
theorem az_s4_50 {x : Int32} : az_p4 C Q (50, lv, .int x :: st, h) ↔ az_p4 C Q (51, lv, .int x :: .int x :: st, h) := az_wp_iff
theorem az_s4_50r {x : Nat} : az_p4 C Q (50, lv, .ref x :: st, h) ↔ az_p4 C Q (51, lv, .ref x :: .ref x :: st, h) := az_wp_iff
theorem az_s4_51 {a : Nat} : az_p4 C Q (51, lv, .ref a :: st, h) ↔ az_mf (h.1 a) 0 2 (fun v => az_p4 C Q (54, lv, v :: st, h)) := az_wp_iff.trans az_go_gf
theorem az_s4_54 : az_p4 C Q (54, lv, st, h) ↔ az_p4 C Q (55, lv, .int (Int32.ofInt (1)) :: st, h) := az_wp_iff
theorem az_s4_55 {x y : Int32} : az_p4 C Q (55, lv, .int y :: .int x :: st, h) ↔ az_p4 C Q (56, lv, .int (x + y) :: st, h) := az_wp_iff
theorem az_s4_56 {a : Nat} {v : Value} : az_p4 C Q (56, lv, v :: .ref a :: st, h) ↔ az_mp (h.1 a) 0 2 0 v (fun c => az_p4 C Q (59, lv, st, az_uh h a c)) := az_wp_iff.trans az_go_pf
theorem az_s4_59 : az_p4 C Q (59, lv, [], h) ↔ Q none h := az_wp_iff
def az_p5 (C : az_Cl) (Q : Option Value → az_H → Prop) : az_S → Prop := az_wp C (fun _ => none) (some .int) (az_fn az_k5) Q
theorem az_s5_0 : az_p5 C Q (0, lv, st, h) ↔ az_ma (lv 0) (fun x => az_p5 C Q (1, lv, x :: st, h)) := az_wp_iff.trans az_go_lda
theorem az_s5_1 {a : Nat} : az_p5 C Q (1, lv, .ref a :: st, h) ↔ az_mf (h.1 a) 0 2 (fun v => az_p5 C Q (4, lv, v :: st, h)) := az_wp_iff.trans az_go_gf
theorem az_s5_4 {x : Int32} : az_p5 C Q (4, lv, .int x :: st, h) ↔ (0 < x → az_p5 C Q (9, lv, st, h)) ∧ (¬ 0 < x → az_p5 C Q (7, lv, st, h)) := az_wp_iff.trans (az_go_if1 az_d_eq)
theorem az_s5_7 : az_p5 C Q (7, lv, st, h) ↔ az_p5 C Q (8, lv, .int (Int32.ofInt (-1)) :: st, h) := az_wp_iff
theorem az_s5_8 {x : Int32} : az_p5 C Q (8, lv, [.int x], h) ↔ Q (some (.int x)) h := az_wp_iff
theorem az_s5_9 : az_p5 C Q (9, lv, st, h) ↔ az_ma (lv 0) (fun x => az_p5 C Q (10, lv, x :: st, h)) := az_wp_iff.trans az_go_lda
theorem az_s5_10 {a : Nat} : az_p5 C Q (10, lv, .ref a :: st, h) ↔ az_mf (h.1 a) 0 1 (fun v => az_p5 C Q (13, lv, v :: st, h)) := az_wp_iff.trans az_go_gf
theorem az_s5_13 : az_p5 C Q (13, lv, st, h) ↔ az_p5 C Q (14, lv, .int (Int32.ofInt (0)) :: st, h) := az_wp_iff
theorem az_s5_14 {a : Nat} {i : Int32} : az_p5 C Q (14, lv, .int i :: .ref a :: st, h) ↔ az_mr (h.1 a) 0 i.toInt (fun x => az_p5 C Q (15, lv, .int x :: st, h)) := az_wp_iff.trans az_go_ial
theorem az_s5_15 {x : Int32} : az_p5 C Q (15, lv, .int x :: st, h) ↔ az_p5 C Q (16, (az_s1 lv 1 (.int x)), st, h) := az_wp_iff
theorem az_s5_16 : az_p5 C Q (16, lv, st, h) ↔ az_ma (lv 0) (fun x => az_p5 C Q (17, lv, x :: st, h)) := az_wp_iff.trans az_go_lda
theorem az_s5_17 {x : Int32} : az_p5 C Q (17, lv, .int x :: st, h) ↔ az_p5 C Q (18, lv, .int x :: .int x :: st, h) := az_wp_iff
theorem az_s5_17r {x : Nat} : az_p5 C Q (17, lv, .ref x :: st, h) ↔ az_p5 C Q (18, lv, .ref x :: .ref x :: st, h) := az_wp_iff
theorem az_s5_18 {a : Nat} : az_p5 C Q (18, lv, .ref a :: st, h) ↔ az_mf (h.1 a) 0 2 (fun v => az_p5 C Q (21, lv, v :: st, h)) := az_wp_iff.trans az_go_gf
theorem az_s5_21 : az_p5 C Q (21, lv, st, h) ↔ az_p5 C Q (22, lv, .int (Int32.ofInt (1)) :: st, h) := az_wp_iff
theorem az_s5_22 {x y : Int32} : az_p5 C Q (22, lv, .int y :: .int x :: st, h) ↔ az_p5 C Q (23, lv, .int (x - y) :: st, h) := az_wp_iff
theorem az_s5_23 {a : Nat} {v : Value} : az_p5 C Q (23, lv, v :: .ref a :: st, h) ↔ az_mp (h.1 a) 0 2 0 v (fun c => az_p5 C Q (26, lv, st, az_uh h a c)) := az_wp_iff.trans az_go_pf
theorem az_s5_26 : az_p5 C Q (26, lv, st, h) ↔ az_p5 C Q (27, lv, .int (Int32.ofInt (0)) :: st, h) := az_wp_iff
theorem az_s5_27 {x : Int32} : az_p5 C Q (27, lv, .int x :: st, h) ↔ az_p5 C Q (28, (az_s1 lv 2 (.int x)), st, h) := az_wp_iff
theorem az_s5_28 : az_p5 C Q (28, lv, st, h) ↔ az_mi (lv 2) (fun x => az_p5 C Q (29, lv, .int x :: st, h)) := az_wp_iff.trans az_go_ldi
theorem az_s5_29 : az_p5 C Q (29, lv, st, h) ↔ az_ma (lv 0) (fun x => az_p5 C Q (30, lv, x :: st, h)) := az_wp_iff.trans az_go_lda
theorem az_s5_30 {a : Nat} : az_p5 C Q (30, lv, .ref a :: st, h) ↔ az_mf (h.1 a) 0 2 (fun v => az_p5 C Q (33, lv, v :: st, h)) := az_wp_iff.trans az_go_gf
theorem az_s5_33 {x y : Int32} : az_p5 C Q (33, lv, .int y :: .int x :: st, h) ↔ (y ≤ x → az_p5 C Q (56, lv, st, h)) ∧ (¬ y ≤ x → az_p5 C Q (36, lv, st, h)) := az_wp_iff.trans (az_go_if2 az_d_eq)
theorem az_s5_36 : az_p5 C Q (36, lv, st, h) ↔ az_ma (lv 0) (fun x => az_p5 C Q (37, lv, x :: st, h)) := az_wp_iff.trans az_go_lda
theorem az_s5_37 {a : Nat} : az_p5 C Q (37, lv, .ref a :: st, h) ↔ az_mf (h.1 a) 0 1 (fun v => az_p5 C Q (40, lv, v :: st, h)) := az_wp_iff.trans az_go_gf
theorem az_s5_40 : az_p5 C Q (40, lv, st, h) ↔ az_mi (lv 2) (fun x => az_p5 C Q (41, lv, .int x :: st, h)) := az_wp_iff.trans az_go_ldi
theorem az_s5_41 : az_p5 C Q (41, lv, st, h) ↔ az_ma (lv 0) (fun x => az_p5 C Q (42, lv, x :: st, h)) := az_wp_iff.trans az_go_lda
theorem az_s5_42 {a : Nat} : az_p5 C Q (42, lv, .ref a :: st, h) ↔ az_mf (h.1 a) 0 1 (fun v => az_p5 C Q (45, lv, v :: st, h)) := az_wp_iff.trans az_go_gf
theorem az_s5_45 : az_p5 C Q (45, lv, st, h) ↔ az_mi (lv 2) (fun x => az_p5 C Q (46, lv, .int x :: st, h)) := az_wp_iff.trans az_go_ldi
theorem az_s5_46 : az_p5 C Q (46, lv, st, h) ↔ az_p5 C Q (47, lv, .int (Int32.ofInt (1)) :: st, h) := az_wp_iff
theorem az_s5_47 {x y : Int32} : az_p5 C Q (47, lv, .int y :: .int x :: st, h) ↔ az_p5 C Q (48, lv, .int (x + y) :: st, h) := az_wp_iff
theorem az_s5_48 {a : Nat} {i : Int32} : az_p5 C Q (48, lv, .int i :: .ref a :: st, h) ↔ az_mr (h.1 a) 0 i.toInt (fun x => az_p5 C Q (49, lv, .int x :: st, h)) := az_wp_iff.trans az_go_ial
theorem az_s5_49 {a : Nat} {i x : Int32} : az_p5 C Q (49, lv, .int x :: .int i :: .ref a :: st, h) ↔ az_mw' (h.1 a) i.toInt x (fun c => az_p5 C Q (50, lv, st, az_uh h a c)) := az_wp_iff.trans az_go_ias
theorem az_s5_50 : az_p5 C Q (50, lv, st, h) ↔ az_mi (lv 2) (fun x => az_p5 C Q (53, (az_s1 lv 2 (.int (x + Int32.ofInt (1)))), st, h)) := az_wp_iff.trans az_go_inc
theorem az_s5_53 : az_p5 C Q (53, lv, st, h) ↔ az_p5 C Q (28, lv, st, h) := az_wp_iff
theorem az_s5_56 : az_p5 C Q (56, lv, st, h) ↔ az_mi (lv 1) (fun x => az_p5 C Q (57, lv, .int x :: st, h)) := az_wp_iff.trans az_go_ldi
theorem az_s5_57 {x : Int32} : az_p5 C Q (57, lv, [.int x], h) ↔ Q (some (.int x)) h := az_wp_iff
def az_p6 (C : az_Cl) (Q : Option Value → az_H → Prop) : az_S → Prop := az_wp C (fun _ => none) (some .long) (az_fn az_k6) Q
theorem az_s6_0 : az_p6 C Q (0, lv, st, h) ↔ az_p6 C Q (1, lv, .long (Int64.ofInt (0)) :: st, h) := az_wp_iff
theorem az_s6_1 {x : Int64} : az_p6 C Q (1, lv, .long x :: st, h) ↔ az_p6 C Q (2, (az_s2 lv 2 (.long x)), st, h) := az_wp_iff
theorem az_s6_2 : az_p6 C Q (2, lv, st, h) ↔ az_p6 C Q (3, lv, .int (Int32.ofInt (0)) :: st, h) := az_wp_iff
theorem az_s6_3 {x : Int32} : az_p6 C Q (3, lv, .int x :: st, h) ↔ az_p6 C Q (5, (az_s1 lv 4 (.int x)), st, h) := az_wp_iff
theorem az_s6_5 : az_p6 C Q (5, lv, st, h) ↔ az_mi (lv 4) (fun x => az_p6 C Q (7, lv, .int x :: st, h)) := az_wp_iff.trans az_go_ldi
theorem az_s6_7 : az_p6 C Q (7, lv, st, h) ↔ az_ma (lv 0) (fun x => az_p6 C Q (8, lv, x :: st, h)) := az_wp_iff.trans az_go_lda
theorem az_s6_8 {a : Nat} : az_p6 C Q (8, lv, .ref a :: st, h) ↔ az_mf (h.1 a) 0 2 (fun v => az_p6 C Q (11, lv, v :: st, h)) := az_wp_iff.trans az_go_gf
theorem az_s6_11 {x y : Int32} : az_p6 C Q (11, lv, .int y :: .int x :: st, h) ↔ (y ≤ x → az_p6 C Q (34, lv, st, h)) ∧ (¬ y ≤ x → az_p6 C Q (14, lv, st, h)) := az_wp_iff.trans (az_go_if2 az_d_eq)
theorem az_s6_14 : az_p6 C Q (14, lv, st, h) ↔ az_ml (lv 2) (fun x => az_p6 C Q (15, lv, .long x :: st, h)) := az_wp_iff.trans az_go_ldl
theorem az_s6_15 : az_p6 C Q (15, lv, st, h) ↔ az_ma (lv 1) (fun x => az_p6 C Q (16, lv, x :: st, h)) := az_wp_iff.trans az_go_lda
theorem az_s6_16 : az_p6 C Q (16, lv, st, h) ↔ az_ma (lv 0) (fun x => az_p6 C Q (17, lv, x :: st, h)) := az_wp_iff.trans az_go_lda
theorem az_s6_17 : az_p6 C Q (17, lv, st, h) ↔ az_mi (lv 4) (fun x => az_p6 C Q (19, lv, .int x :: st, h)) := az_wp_iff.trans az_go_ldi
theorem az_s6_19 {a : Nat} {v1 : Value} : az_p6 C Q (19, lv, v1 :: .ref a :: st, h) ↔ az_isob (h.1 a) 0 = true ∧ az_cat st ≤ 8 ∧ az_mc C 2 [.ref a, v1] h (fun v h' => az_p6 C Q (22, lv, v ++ st, h')) := az_wp_iff.trans (az_go_if.trans (and_congr Iff.rfl az_go_call))
theorem az_s6_22 {a : Nat} {v1 : Value} : az_p6 C Q (22, lv, v1 :: .ref a :: st, h) ↔ az_isob (h.1 a) 5 = true ∧ az_cat st ≤ 8 ∧ az_mc C 40 [.ref a, v1] h (fun v h' => az_p6 C Q (25, lv, v ++ st, h')) := az_wp_iff.trans (az_go_if.trans (and_congr Iff.rfl az_go_call))
theorem az_s6_25 {x : Int32} : az_p6 C Q (25, lv, .int x :: st, h) ↔ az_p6 C Q (26, lv, .long x.toInt64 :: st, h) := az_wp_iff
theorem az_s6_26 {x y : Int64} : az_p6 C Q (26, lv, .long y :: .long x :: st, h) ↔ az_p6 C Q (27, lv, .long (x + y) :: st, h) := az_wp_iff
theorem az_s6_27 {x : Int64} : az_p6 C Q (27, lv, .long x :: st, h) ↔ az_p6 C Q (28, (az_s2 lv 2 (.long x)), st, h) := az_wp_iff
theorem az_s6_28 : az_p6 C Q (28, lv, st, h) ↔ az_mi (lv 4) (fun x => az_p6 C Q (31, (az_s1 lv 4 (.int (x + Int32.ofInt (1)))), st, h)) := az_wp_iff.trans az_go_inc
theorem az_s6_31 : az_p6 C Q (31, lv, st, h) ↔ az_p6 C Q (5, lv, st, h) := az_wp_iff
theorem az_s6_34 : az_p6 C Q (34, lv, st, h) ↔ az_ml (lv 2) (fun x => az_p6 C Q (35, lv, .long x :: st, h)) := az_wp_iff.trans az_go_ldl
theorem az_s6_35 {x : Int64} : az_p6 C Q (35, lv, [.long x], h) ↔ Q (some (.long x)) h := az_wp_iff
def az_p7 (C : az_Cl) (Q : Option Value → az_H → Prop) : az_S → Prop := az_wp C (fun _ => none) none (az_fn az_k7) Q
theorem az_s7_0 : az_p7 C Q (0, lv, st, h) ↔ az_ma (lv 0) (fun x => az_p7 C Q (1, lv, x :: st, h)) := az_wp_iff.trans az_go_lda
theorem az_s7_1 : az_p7 C Q (1, lv, st, h) ↔ az_ma (lv 0) (fun x => az_p7 C Q (2, lv, x :: st, h)) := az_wp_iff.trans az_go_lda
theorem az_s7_2 {a : Nat} : az_p7 C Q (2, lv, .ref a :: st, h) ↔ az_mf (h.1 a) 0 3 (fun v => az_p7 C Q (5, lv, v :: st, h)) := az_wp_iff.trans az_go_gf
theorem az_s7_5 : az_p7 C Q (5, lv, st, h) ↔ az_ma (lv 0) (fun x => az_p7 C Q (6, lv, x :: st, h)) := az_wp_iff.trans az_go_lda
theorem az_s7_6 {a : Nat} : az_p7 C Q (6, lv, .ref a :: st, h) ↔ az_mf (h.1 a) 0 2 (fun v => az_p7 C Q (9, lv, v :: st, h)) := az_wp_iff.trans az_go_gf
theorem az_s7_9 {x y : Int32} : az_p7 C Q (9, lv, .int y :: .int x :: st, h) ↔ az_cat st ≤ 8 ∧ az_p7 C Q (12, lv, .int (if decide (x < y) = true then y else x) :: st, h) := az_wp_iff.trans az_go_if
theorem az_s7_12 {a : Nat} {v : Value} : az_p7 C Q (12, lv, v :: .ref a :: st, h) ↔ az_mp (h.1 a) 0 3 0 v (fun c => az_p7 C Q (15, lv, st, az_uh h a c)) := az_wp_iff.trans az_go_pf
theorem az_s7_15 : az_p7 C Q (15, lv, [], h) ↔ Q none h := az_wp_iff
def az_p8 (C : az_Cl) (Q : Option Value → az_H → Prop) : az_S → Prop := az_wp C (fun _ => none) none (az_fn az_k8) Q
theorem az_s8_0 : az_p8 C Q (0, lv, st, h) ↔ az_ma (lv 0) (fun x => az_p8 C Q (1, lv, x :: st, h)) := az_wp_iff.trans az_go_lda
theorem az_s8_1 {a : Nat} : az_p8 C Q (1, lv, .ref a :: st, h) ↔ az_cat st ≤ 8 ∧ az_p8 C Q (4, lv, st, h) := az_wp_iff.trans az_go_if
theorem az_s8_4 : az_p8 C Q (4, lv, st, h) ↔ az_ma (lv 0) (fun x => az_p8 C Q (5, lv, x :: st, h)) := az_wp_iff.trans az_go_lda
theorem az_s8_5 : az_p8 C Q (5, lv, st, h) ↔ az_p8 C Q (7, lv, .int (Int32.ofInt (40)) :: st, h) := az_wp_iff
theorem az_s8_7 {n : Int32} : az_p8 C Q (7, lv, .int n :: st, h) ↔ (0 ≤ n.toInt ∧ n.toInt ≤ 65536) ∧ az_p8 C Q (9, lv, .ref h.2.1 :: st, az_nw h (az_ia 0 n.toInt.toNat (fun _ => 0)) n.toInt.toNat) := az_wp_iff.trans az_go_if
theorem az_s8_9 {a : Nat} {v : Value} : az_p8 C Q (9, lv, v :: .ref a :: st, h) ↔ az_mp (h.1 a) 1 0 3 v (fun c => az_p8 C Q (12, lv, st, az_uh h a c)) := az_wp_iff.trans az_go_pf
theorem az_s8_12 : az_p8 C Q (12, lv, st, h) ↔ az_ma (lv 0) (fun x => az_p8 C Q (13, lv, x :: st, h)) := az_wp_iff.trans az_go_lda
theorem az_s8_13 : az_p8 C Q (13, lv, st, h) ↔ az_p8 C Q (15, lv, .int (Int32.ofInt (40)) :: st, h) := az_wp_iff
theorem az_s8_15 {n : Int32} : az_p8 C Q (15, lv, .int n :: st, h) ↔ (0 ≤ n.toInt ∧ n.toInt ≤ 65536) ∧ az_p8 C Q (17, lv, .ref h.2.1 :: st, az_nw h (az_ia 0 n.toInt.toNat (fun _ => 0)) n.toInt.toNat) := az_wp_iff.trans az_go_if
theorem az_s8_17 {a : Nat} {v : Value} : az_p8 C Q (17, lv, v :: .ref a :: st, h) ↔ az_mp (h.1 a) 1 1 3 v (fun c => az_p8 C Q (20, lv, st, az_uh h a c)) := az_wp_iff.trans az_go_pf
theorem az_s8_20 : az_p8 C Q (20, lv, st, h) ↔ az_ma (lv 0) (fun x => az_p8 C Q (21, lv, x :: st, h)) := az_wp_iff.trans az_go_lda
theorem az_s8_21 : az_p8 C Q (21, lv, st, h) ↔ az_p8 C Q (23, lv, .int (Int32.ofInt (40)) :: st, h) := az_wp_iff
theorem az_s8_23 {n : Int32} : az_p8 C Q (23, lv, .int n :: st, h) ↔ (0 ≤ n.toInt ∧ n.toInt ≤ 65536) ∧ az_p8 C Q (25, lv, .ref h.2.1 :: st, az_nw h (az_ia 0 n.toInt.toNat (fun _ => 0)) n.toInt.toNat) := az_wp_iff.trans az_go_if
theorem az_s8_25 {a : Nat} {v : Value} : az_p8 C Q (25, lv, v :: .ref a :: st, h) ↔ az_mp (h.1 a) 1 2 3 v (fun c => az_p8 C Q (28, lv, st, az_uh h a c)) := az_wp_iff.trans az_go_pf
theorem az_s8_28 : az_p8 C Q (28, lv, [], h) ↔ Q none h := az_wp_iff
def az_p9 (C : az_Cl) (Q : Option Value → az_H → Prop) : az_S → Prop := az_wp C (fun _ => none) (some .boolean) (az_fn az_k9) Q
theorem az_s9_0 : az_p9 C Q (0, lv, st, h) ↔ az_ma (lv 0) (fun x => az_p9 C Q (1, lv, x :: st, h)) := az_wp_iff.trans az_go_lda
theorem az_s9_1 {a : Nat} : az_p9 C Q (1, lv, .ref a :: st, h) ↔ az_mf (h.1 a) 1 3 (fun v => az_p9 C Q (4, lv, v :: st, h)) := az_wp_iff.trans az_go_gf
theorem az_s9_4 : az_p9 C Q (4, lv, st, h) ↔ az_p9 C Q (6, lv, .int (Int32.ofInt (40)) :: st, h) := az_wp_iff
theorem az_s9_6 {x y : Int32} : az_p9 C Q (6, lv, .int y :: .int x :: st, h) ↔ (y ≤ x → az_p9 C Q (19, lv, st, h)) ∧ (¬ y ≤ x → az_p9 C Q (9, lv, st, h)) := az_wp_iff.trans (az_go_if2 az_d_eq)
theorem az_s9_9 : az_p9 C Q (9, lv, st, h) ↔ az_ma (lv 0) (fun x => az_p9 C Q (10, lv, x :: st, h)) := az_wp_iff.trans az_go_lda
theorem az_s9_10 : az_p9 C Q (10, lv, st, h) ↔ az_mi (lv 1) (fun x => az_p9 C Q (11, lv, .int x :: st, h)) := az_wp_iff.trans az_go_ldi
theorem az_s9_11 : az_p9 C Q (11, lv, st, h) ↔ az_mi (lv 2) (fun x => az_p9 C Q (12, lv, .int x :: st, h)) := az_wp_iff.trans az_go_ldi
theorem az_s9_12 {a : Nat} {v1 v2 : Value} : az_p9 C Q (12, lv, v2 :: v1 :: .ref a :: st, h) ↔ az_isob (h.1 a) 1 = true ∧ az_cat st ≤ 8 ∧ az_mc C 10 [.ref a, v1, v2] h (fun v h' => az_p9 C Q (15, lv, v ++ st, h')) := az_wp_iff.trans (az_go_if.trans (and_congr Iff.rfl az_go_call))
theorem az_s9_15 : az_p9 C Q (15, lv, st, h) ↔ az_p9 C Q (16, lv, .int (Int32.ofInt (-1)) :: st, h) := az_wp_iff
theorem az_s9_16 {x y : Int32} : az_p9 C Q (16, lv, .int y :: .int x :: st, h) ↔ (x = y → az_p9 C Q (21, lv, st, h)) ∧ (¬ x = y → az_p9 C Q (19, lv, st, h)) := az_wp_iff.trans (az_go_if2 az_d_eq)
theorem az_s9_19 : az_p9 C Q (19, lv, st, h) ↔ az_p9 C Q (20, lv, .int (Int32.ofInt (0)) :: st, h) := az_wp_iff
theorem az_s9_20 {x : Int32} : az_p9 C Q (20, lv, [.int x], h) ↔ (x = 0 ∨ x = 1) ∧ Q (some (.int x)) h := az_wp_iff.trans az_go_if
theorem az_s9_21 : az_p9 C Q (21, lv, st, h) ↔ az_ma (lv 0) (fun x => az_p9 C Q (22, lv, x :: st, h)) := az_wp_iff.trans az_go_lda
theorem az_s9_22 {a : Nat} : az_p9 C Q (22, lv, .ref a :: st, h) ↔ az_mf (h.1 a) 1 0 (fun v => az_p9 C Q (25, lv, v :: st, h)) := az_wp_iff.trans az_go_gf
theorem az_s9_25 : az_p9 C Q (25, lv, st, h) ↔ az_ma (lv 0) (fun x => az_p9 C Q (26, lv, x :: st, h)) := az_wp_iff.trans az_go_lda
theorem az_s9_26 {a : Nat} : az_p9 C Q (26, lv, .ref a :: st, h) ↔ az_mf (h.1 a) 1 3 (fun v => az_p9 C Q (29, lv, v :: st, h)) := az_wp_iff.trans az_go_gf
theorem az_s9_29 : az_p9 C Q (29, lv, st, h) ↔ az_mi (lv 1) (fun x => az_p9 C Q (30, lv, .int x :: st, h)) := az_wp_iff.trans az_go_ldi
theorem az_s9_30 {a : Nat} {i x : Int32} : az_p9 C Q (30, lv, .int x :: .int i :: .ref a :: st, h) ↔ az_mw' (h.1 a) i.toInt x (fun c => az_p9 C Q (31, lv, st, az_uh h a c)) := az_wp_iff.trans az_go_ias
theorem az_s9_31 : az_p9 C Q (31, lv, st, h) ↔ az_ma (lv 0) (fun x => az_p9 C Q (32, lv, x :: st, h)) := az_wp_iff.trans az_go_lda
theorem az_s9_32 {a : Nat} : az_p9 C Q (32, lv, .ref a :: st, h) ↔ az_mf (h.1 a) 1 1 (fun v => az_p9 C Q (35, lv, v :: st, h)) := az_wp_iff.trans az_go_gf
theorem az_s9_35 : az_p9 C Q (35, lv, st, h) ↔ az_ma (lv 0) (fun x => az_p9 C Q (36, lv, x :: st, h)) := az_wp_iff.trans az_go_lda
theorem az_s9_36 {a : Nat} : az_p9 C Q (36, lv, .ref a :: st, h) ↔ az_mf (h.1 a) 1 3 (fun v => az_p9 C Q (39, lv, v :: st, h)) := az_wp_iff.trans az_go_gf
theorem az_s9_39 : az_p9 C Q (39, lv, st, h) ↔ az_mi (lv 2) (fun x => az_p9 C Q (40, lv, .int x :: st, h)) := az_wp_iff.trans az_go_ldi
theorem az_s9_40 {a : Nat} {i x : Int32} : az_p9 C Q (40, lv, .int x :: .int i :: .ref a :: st, h) ↔ az_mw' (h.1 a) i.toInt x (fun c => az_p9 C Q (41, lv, st, az_uh h a c)) := az_wp_iff.trans az_go_ias
theorem az_s9_41 : az_p9 C Q (41, lv, st, h) ↔ az_ma (lv 0) (fun x => az_p9 C Q (42, lv, x :: st, h)) := az_wp_iff.trans az_go_lda
theorem az_s9_42 {a : Nat} : az_p9 C Q (42, lv, .ref a :: st, h) ↔ az_mf (h.1 a) 1 2 (fun v => az_p9 C Q (45, lv, v :: st, h)) := az_wp_iff.trans az_go_gf
theorem az_s9_45 : az_p9 C Q (45, lv, st, h) ↔ az_ma (lv 0) (fun x => az_p9 C Q (46, lv, x :: st, h)) := az_wp_iff.trans az_go_lda
theorem az_s9_46 {a : Nat} : az_p9 C Q (46, lv, .ref a :: st, h) ↔ az_mf (h.1 a) 1 3 (fun v => az_p9 C Q (49, lv, v :: st, h)) := az_wp_iff.trans az_go_gf
theorem az_s9_49 : az_p9 C Q (49, lv, st, h) ↔ az_mi (lv 3) (fun x => az_p9 C Q (50, lv, .int x :: st, h)) := az_wp_iff.trans az_go_ldi
theorem az_s9_50 {a : Nat} {i x : Int32} : az_p9 C Q (50, lv, .int x :: .int i :: .ref a :: st, h) ↔ az_mw' (h.1 a) i.toInt x (fun c => az_p9 C Q (51, lv, st, az_uh h a c)) := az_wp_iff.trans az_go_ias
theorem az_s9_51 : az_p9 C Q (51, lv, st, h) ↔ az_ma (lv 0) (fun x => az_p9 C Q (52, lv, x :: st, h)) := az_wp_iff.trans az_go_lda
theorem az_s9_52 {x : Int32} : az_p9 C Q (52, lv, .int x :: st, h) ↔ az_p9 C Q (53, lv, .int x :: .int x :: st, h) := az_wp_iff
theorem az_s9_52r {x : Nat} : az_p9 C Q (52, lv, .ref x :: st, h) ↔ az_p9 C Q (53, lv, .ref x :: .ref x :: st, h) := az_wp_iff
theorem az_s9_53 {a : Nat} : az_p9 C Q (53, lv, .ref a :: st, h) ↔ az_mf (h.1 a) 1 3 (fun v => az_p9 C Q (56, lv, v :: st, h)) := az_wp_iff.trans az_go_gf
theorem az_s9_56 : az_p9 C Q (56, lv, st, h) ↔ az_p9 C Q (57, lv, .int (Int32.ofInt (1)) :: st, h) := az_wp_iff
theorem az_s9_57 {x y : Int32} : az_p9 C Q (57, lv, .int y :: .int x :: st, h) ↔ az_p9 C Q (58, lv, .int (x + y) :: st, h) := az_wp_iff
theorem az_s9_58 {a : Nat} {v : Value} : az_p9 C Q (58, lv, v :: .ref a :: st, h) ↔ az_mp (h.1 a) 1 3 0 v (fun c => az_p9 C Q (61, lv, st, az_uh h a c)) := az_wp_iff.trans az_go_pf
theorem az_s9_61 : az_p9 C Q (61, lv, st, h) ↔ az_p9 C Q (62, lv, .int (Int32.ofInt (1)) :: st, h) := az_wp_iff
theorem az_s9_62 {x : Int32} : az_p9 C Q (62, lv, [.int x], h) ↔ (x = 0 ∨ x = 1) ∧ Q (some (.int x)) h := az_wp_iff.trans az_go_if
def az_p10 (C : az_Cl) (Q : Option Value → az_H → Prop) : az_S → Prop := az_wp C (fun _ => none) (some .int) (az_fn az_k10) Q
theorem az_s10_0 : az_p10 C Q (0, lv, st, h) ↔ az_p10 C Q (1, lv, .int (Int32.ofInt (0)) :: st, h) := az_wp_iff
theorem az_s10_1 {x : Int32} : az_p10 C Q (1, lv, .int x :: st, h) ↔ az_p10 C Q (2, (az_s1 lv 3 (.int x)), st, h) := az_wp_iff
theorem az_s10_2 : az_p10 C Q (2, lv, st, h) ↔ az_mi (lv 3) (fun x => az_p10 C Q (3, lv, .int x :: st, h)) := az_wp_iff.trans az_go_ldi
theorem az_s10_3 : az_p10 C Q (3, lv, st, h) ↔ az_ma (lv 0) (fun x => az_p10 C Q (4, lv, x :: st, h)) := az_wp_iff.trans az_go_lda
theorem az_s10_4 {a : Nat} : az_p10 C Q (4, lv, .ref a :: st, h) ↔ az_mf (h.1 a) 1 3 (fun v => az_p10 C Q (7, lv, v :: st, h)) := az_wp_iff.trans az_go_gf
theorem az_s10_7 {x y : Int32} : az_p10 C Q (7, lv, .int y :: .int x :: st, h) ↔ (y ≤ x → az_p10 C Q (49, lv, st, h)) ∧ (¬ y ≤ x → az_p10 C Q (10, lv, st, h)) := az_wp_iff.trans (az_go_if2 az_d_eq)
theorem az_s10_10 : az_p10 C Q (10, lv, st, h) ↔ az_mi (lv 3) (fun x => az_p10 C Q (11, lv, .int x :: st, h)) := az_wp_iff.trans az_go_ldi
theorem az_s10_11 : az_p10 C Q (11, lv, st, h) ↔ az_p10 C Q (13, lv, .int (Int32.ofInt (40)) :: st, h) := az_wp_iff
theorem az_s10_13 {x y : Int32} : az_p10 C Q (13, lv, .int y :: .int x :: st, h) ↔ (y ≤ x → az_p10 C Q (49, lv, st, h)) ∧ (¬ y ≤ x → az_p10 C Q (16, lv, st, h)) := az_wp_iff.trans (az_go_if2 az_d_eq)
theorem az_s10_16 : az_p10 C Q (16, lv, st, h) ↔ az_ma (lv 0) (fun x => az_p10 C Q (17, lv, x :: st, h)) := az_wp_iff.trans az_go_lda
theorem az_s10_17 {a : Nat} : az_p10 C Q (17, lv, .ref a :: st, h) ↔ az_mf (h.1 a) 1 0 (fun v => az_p10 C Q (20, lv, v :: st, h)) := az_wp_iff.trans az_go_gf
theorem az_s10_20 : az_p10 C Q (20, lv, st, h) ↔ az_mi (lv 3) (fun x => az_p10 C Q (21, lv, .int x :: st, h)) := az_wp_iff.trans az_go_ldi
theorem az_s10_21 {a : Nat} {i : Int32} : az_p10 C Q (21, lv, .int i :: .ref a :: st, h) ↔ az_mr (h.1 a) 0 i.toInt (fun x => az_p10 C Q (22, lv, .int x :: st, h)) := az_wp_iff.trans az_go_ial
theorem az_s10_22 : az_p10 C Q (22, lv, st, h) ↔ az_mi (lv 1) (fun x => az_p10 C Q (23, lv, .int x :: st, h)) := az_wp_iff.trans az_go_ldi
theorem az_s10_23 {x y : Int32} : az_p10 C Q (23, lv, .int y :: .int x :: st, h) ↔ (¬ x = y → az_p10 C Q (43, lv, st, h)) ∧ (¬ ¬ x = y → az_p10 C Q (26, lv, st, h)) := az_wp_iff.trans (az_go_if2 az_d_eq)
theorem az_s10_26 : az_p10 C Q (26, lv, st, h) ↔ az_ma (lv 0) (fun x => az_p10 C Q (27, lv, x :: st, h)) := az_wp_iff.trans az_go_lda
theorem az_s10_27 {a : Nat} : az_p10 C Q (27, lv, .ref a :: st, h) ↔ az_mf (h.1 a) 1 1 (fun v => az_p10 C Q (30, lv, v :: st, h)) := az_wp_iff.trans az_go_gf
theorem az_s10_30 : az_p10 C Q (30, lv, st, h) ↔ az_mi (lv 3) (fun x => az_p10 C Q (31, lv, .int x :: st, h)) := az_wp_iff.trans az_go_ldi
theorem az_s10_31 {a : Nat} {i : Int32} : az_p10 C Q (31, lv, .int i :: .ref a :: st, h) ↔ az_mr (h.1 a) 0 i.toInt (fun x => az_p10 C Q (32, lv, .int x :: st, h)) := az_wp_iff.trans az_go_ial
theorem az_s10_32 : az_p10 C Q (32, lv, st, h) ↔ az_mi (lv 2) (fun x => az_p10 C Q (33, lv, .int x :: st, h)) := az_wp_iff.trans az_go_ldi
theorem az_s10_33 {x y : Int32} : az_p10 C Q (33, lv, .int y :: .int x :: st, h) ↔ (¬ x = y → az_p10 C Q (43, lv, st, h)) ∧ (¬ ¬ x = y → az_p10 C Q (36, lv, st, h)) := az_wp_iff.trans (az_go_if2 az_d_eq)
theorem az_s10_36 : az_p10 C Q (36, lv, st, h) ↔ az_ma (lv 0) (fun x => az_p10 C Q (37, lv, x :: st, h)) := az_wp_iff.trans az_go_lda
theorem az_s10_37 {a : Nat} : az_p10 C Q (37, lv, .ref a :: st, h) ↔ az_mf (h.1 a) 1 2 (fun v => az_p10 C Q (40, lv, v :: st, h)) := az_wp_iff.trans az_go_gf
theorem az_s10_40 : az_p10 C Q (40, lv, st, h) ↔ az_mi (lv 3) (fun x => az_p10 C Q (41, lv, .int x :: st, h)) := az_wp_iff.trans az_go_ldi
theorem az_s10_41 {a : Nat} {i : Int32} : az_p10 C Q (41, lv, .int i :: .ref a :: st, h) ↔ az_mr (h.1 a) 0 i.toInt (fun x => az_p10 C Q (42, lv, .int x :: st, h)) := az_wp_iff.trans az_go_ial
theorem az_s10_42 {x : Int32} : az_p10 C Q (42, lv, [.int x], h) ↔ Q (some (.int x)) h := az_wp_iff
theorem az_s10_43 : az_p10 C Q (43, lv, st, h) ↔ az_mi (lv 3) (fun x => az_p10 C Q (46, (az_s1 lv 3 (.int (x + Int32.ofInt (1)))), st, h)) := az_wp_iff.trans az_go_inc
theorem az_s10_46 : az_p10 C Q (46, lv, st, h) ↔ az_p10 C Q (2, lv, st, h) := az_wp_iff
theorem az_s10_49 : az_p10 C Q (49, lv, st, h) ↔ az_p10 C Q (50, lv, .int (Int32.ofInt (-1)) :: st, h) := az_wp_iff
theorem az_s10_50 {x : Int32} : az_p10 C Q (50, lv, [.int x], h) ↔ Q (some (.int x)) h := az_wp_iff
def az_p11 (C : az_Cl) (Q : Option Value → az_H → Prop) : az_S → Prop := az_wp C (fun _ => none) (some .int) (az_fn az_k11) Q
theorem az_s11_0 : az_p11 C Q (0, lv, st, h) ↔ az_ma (lv 0) (fun x => az_p11 C Q (1, lv, x :: st, h)) := az_wp_iff.trans az_go_lda
theorem az_s11_1 : az_p11 C Q (1, lv, st, h) ↔ az_mi (lv 1) (fun x => az_p11 C Q (2, lv, .int x :: st, h)) := az_wp_iff.trans az_go_ldi
theorem az_s11_2 : az_p11 C Q (2, lv, st, h) ↔ az_mi (lv 2) (fun x => az_p11 C Q (3, lv, .int x :: st, h)) := az_wp_iff.trans az_go_ldi
theorem az_s11_3 {a : Nat} {v1 v2 : Value} : az_p11 C Q (3, lv, v2 :: v1 :: .ref a :: st, h) ↔ az_isob (h.1 a) 1 = true ∧ az_cat st ≤ 8 ∧ az_mc C 10 [.ref a, v1, v2] h (fun v h' => az_p11 C Q (6, lv, v ++ st, h')) := az_wp_iff.trans (az_go_if.trans (and_congr Iff.rfl az_go_call))
theorem az_s11_6 {x : Int32} : az_p11 C Q (6, lv, .int x :: st, h) ↔ az_p11 C Q (7, (az_s1 lv 3 (.int x)), st, h) := az_wp_iff
theorem az_s11_7 : az_p11 C Q (7, lv, st, h) ↔ az_mi (lv 3) (fun x => az_p11 C Q (8, lv, .int x :: st, h)) := az_wp_iff.trans az_go_ldi
theorem az_s11_8 : az_p11 C Q (8, lv, st, h) ↔ az_p11 C Q (9, lv, .int (Int32.ofInt (-1)) :: st, h) := az_wp_iff
theorem az_s11_9 {x y : Int32} : az_p11 C Q (9, lv, .int y :: .int x :: st, h) ↔ (x = y → az_p11 C Q (22, lv, st, h)) ∧ (¬ x = y → az_p11 C Q (12, lv, st, h)) := az_wp_iff.trans (az_go_if2 az_d_eq)
theorem az_s11_12 : az_p11 C Q (12, lv, st, h) ↔ az_ma (lv 0) (fun x => az_p11 C Q (13, lv, x :: st, h)) := az_wp_iff.trans az_go_lda
theorem az_s11_13 {x : Int32} : az_p11 C Q (13, lv, .int x :: st, h) ↔ az_p11 C Q (14, lv, .int x :: .int x :: st, h) := az_wp_iff
theorem az_s11_13r {x : Nat} : az_p11 C Q (13, lv, .ref x :: st, h) ↔ az_p11 C Q (14, lv, .ref x :: .ref x :: st, h) := az_wp_iff
theorem az_s11_14 {a : Nat} : az_p11 C Q (14, lv, .ref a :: st, h) ↔ az_mf (h.1 a) 1 4 (fun v => az_p11 C Q (17, lv, v :: st, h)) := az_wp_iff.trans az_go_gf
theorem az_s11_17 : az_p11 C Q (17, lv, st, h) ↔ az_p11 C Q (18, lv, .int (Int32.ofInt (1)) :: st, h) := az_wp_iff
theorem az_s11_18 {x y : Int32} : az_p11 C Q (18, lv, .int y :: .int x :: st, h) ↔ az_p11 C Q (19, lv, .int (x + y) :: st, h) := az_wp_iff
theorem az_s11_19 {a : Nat} {v : Value} : az_p11 C Q (19, lv, v :: .ref a :: st, h) ↔ az_mp (h.1 a) 1 4 0 v (fun c => az_p11 C Q (22, lv, st, az_uh h a c)) := az_wp_iff.trans az_go_pf
theorem az_s11_22 : az_p11 C Q (22, lv, st, h) ↔ az_mi (lv 3) (fun x => az_p11 C Q (23, lv, .int x :: st, h)) := az_wp_iff.trans az_go_ldi
theorem az_s11_23 {x : Int32} : az_p11 C Q (23, lv, [.int x], h) ↔ Q (some (.int x)) h := az_wp_iff
def az_p12 (C : az_Cl) (Q : Option Value → az_H → Prop) : az_S → Prop := az_wp C (fun _ => none) none (az_fn az_k12) Q
theorem az_s12_0 : az_p12 C Q (0, lv, st, h) ↔ az_ma (lv 0) (fun x => az_p12 C Q (1, lv, x :: st, h)) := az_wp_iff.trans az_go_lda
theorem az_s12_1 {a : Nat} : az_p12 C Q (1, lv, .ref a :: st, h) ↔ az_cat st ≤ 8 ∧ az_p12 C Q (4, lv, st, h) := az_wp_iff.trans az_go_if
theorem az_s12_4 : az_p12 C Q (4, lv, st, h) ↔ az_ma (lv 0) (fun x => az_p12 C Q (5, lv, x :: st, h)) := az_wp_iff.trans az_go_lda
theorem az_s12_5 : az_p12 C Q (5, lv, st, h) ↔ az_p12 C Q (7, lv, .int (Int32.ofInt (16)) :: st, h) := az_wp_iff
theorem az_s12_7 {n : Int32} : az_p12 C Q (7, lv, .int n :: st, h) ↔ (0 ≤ n.toInt ∧ n.toInt ≤ 65536) ∧ az_p12 C Q (10, lv, .ref h.2.1 :: st, az_nw h (az_ra 0 n.toInt.toNat (fun _ => none)) n.toInt.toNat) := az_wp_iff.trans az_go_if
theorem az_s12_10 {a : Nat} {v : Value} : az_p12 C Q (10, lv, v :: .ref a :: st, h) ↔ az_mp (h.1 a) 2 0 3 v (fun c => az_p12 C Q (13, lv, st, az_uh h a c)) := az_wp_iff.trans az_go_pf
theorem az_s12_13 : az_p12 C Q (13, lv, st, h) ↔ az_ma (lv 0) (fun x => az_p12 C Q (14, lv, x :: st, h)) := az_wp_iff.trans az_go_lda
theorem az_s12_14 : az_p12 C Q (14, lv, st, h) ↔ az_p12 C Q (16, lv, .int (Int32.ofInt (12)) :: st, h) := az_wp_iff
theorem az_s12_16 {n : Int32} : az_p12 C Q (16, lv, .int n :: st, h) ↔ (0 ≤ n.toInt ∧ n.toInt ≤ 65536) ∧ az_p12 C Q (19, lv, .ref h.2.1 :: st, az_nw h (az_ra 1 n.toInt.toNat (fun _ => none)) n.toInt.toNat) := az_wp_iff.trans az_go_if
theorem az_s12_19 {a : Nat} {v : Value} : az_p12 C Q (19, lv, v :: .ref a :: st, h) ↔ az_mp (h.1 a) 2 1 3 v (fun c => az_p12 C Q (22, lv, st, az_uh h a c)) := az_wp_iff.trans az_go_pf
theorem az_s12_22 : az_p12 C Q (22, lv, [], h) ↔ Q none h := az_wp_iff
def az_p13 (C : az_Cl) (Q : Option Value → az_H → Prop) : az_S → Prop := az_wp C (fun _ => none) (some (.object "MillLine$Bin")) (az_fn az_k13) Q
theorem az_s13_0 : az_p13 C Q (0, lv, st, h) ↔ az_mi (lv 1) (fun x => az_p13 C Q (1, lv, .int x :: st, h)) := az_wp_iff.trans az_go_ldi
theorem az_s13_1 {x : Int32} : az_p13 C Q (1, lv, .int x :: st, h) ↔ (x < 0 → az_p13 C Q (22, lv, st, h)) ∧ (¬ x < 0 → az_p13 C Q (4, lv, st, h)) := az_wp_iff.trans (az_go_if1 az_d_eq)
theorem az_s13_4 : az_p13 C Q (4, lv, st, h) ↔ az_mi (lv 1) (fun x => az_p13 C Q (5, lv, .int x :: st, h)) := az_wp_iff.trans az_go_ldi
theorem az_s13_5 : az_p13 C Q (5, lv, st, h) ↔ az_ma (lv 0) (fun x => az_p13 C Q (6, lv, x :: st, h)) := az_wp_iff.trans az_go_lda
theorem az_s13_6 {a : Nat} : az_p13 C Q (6, lv, .ref a :: st, h) ↔ az_mf (h.1 a) 2 0 (fun v => az_p13 C Q (9, lv, v :: st, h)) := az_wp_iff.trans az_go_gf
theorem az_s13_9 {a : Nat} : az_p13 C Q (9, lv, .ref a :: st, h) ↔ az_mn (h.1 a) (fun x => az_p13 C Q (10, lv, .int x :: st, h)) := az_wp_iff.trans az_go_aln
theorem az_s13_10 {x y : Int32} : az_p13 C Q (10, lv, .int y :: .int x :: st, h) ↔ (y ≤ x → az_p13 C Q (22, lv, st, h)) ∧ (¬ y ≤ x → az_p13 C Q (13, lv, st, h)) := az_wp_iff.trans (az_go_if2 az_d_eq)
theorem az_s13_13 : az_p13 C Q (13, lv, st, h) ↔ az_ma (lv 0) (fun x => az_p13 C Q (14, lv, x :: st, h)) := az_wp_iff.trans az_go_lda
theorem az_s13_14 {a : Nat} : az_p13 C Q (14, lv, .ref a :: st, h) ↔ az_mf (h.1 a) 2 0 (fun v => az_p13 C Q (17, lv, v :: st, h)) := az_wp_iff.trans az_go_gf
theorem az_s13_17 : az_p13 C Q (17, lv, st, h) ↔ az_mi (lv 1) (fun x => az_p13 C Q (18, lv, .int x :: st, h)) := az_wp_iff.trans az_go_ldi
theorem az_s13_18 {a : Nat} {i : Int32} : az_p13 C Q (18, lv, .int i :: .ref a :: st, h) ↔ az_mra (h.1 a) i.toInt (fun x => az_p13 C Q (19, lv, x :: st, h)) := az_wp_iff.trans az_go_aal
theorem az_s13_19 : az_p13 C Q (19, lv, st, h) ↔ az_p13 C Q (23, lv, st, h) := az_wp_iff
theorem az_s13_22 : az_p13 C Q (22, lv, st, h) ↔ az_p13 C Q (23, lv, .null :: st, h) := az_wp_iff
theorem az_s13_23 {x : Nat} : az_p13 C Q (23, lv, [.ref x], h) ↔ Q (some (.ref x)) h := az_wp_iff
theorem az_s13_23n : az_p13 C Q (23, lv, [.null], h) ↔ Q (some .null) h := az_wp_iff
def az_p14 (C : az_Cl) (Q : Option Value → az_H → Prop) : az_S → Prop := az_wp C (fun _ => none) (some (.object "MillLine$Stage")) (az_fn az_k14) Q
theorem az_s14_0 : az_p14 C Q (0, lv, st, h) ↔ az_mi (lv 1) (fun x => az_p14 C Q (1, lv, .int x :: st, h)) := az_wp_iff.trans az_go_ldi
theorem az_s14_1 {x : Int32} : az_p14 C Q (1, lv, .int x :: st, h) ↔ (x < 0 → az_p14 C Q (22, lv, st, h)) ∧ (¬ x < 0 → az_p14 C Q (4, lv, st, h)) := az_wp_iff.trans (az_go_if1 az_d_eq)
theorem az_s14_4 : az_p14 C Q (4, lv, st, h) ↔ az_mi (lv 1) (fun x => az_p14 C Q (5, lv, .int x :: st, h)) := az_wp_iff.trans az_go_ldi
theorem az_s14_5 : az_p14 C Q (5, lv, st, h) ↔ az_ma (lv 0) (fun x => az_p14 C Q (6, lv, x :: st, h)) := az_wp_iff.trans az_go_lda
theorem az_s14_6 {a : Nat} : az_p14 C Q (6, lv, .ref a :: st, h) ↔ az_mf (h.1 a) 2 1 (fun v => az_p14 C Q (9, lv, v :: st, h)) := az_wp_iff.trans az_go_gf
theorem az_s14_9 {a : Nat} : az_p14 C Q (9, lv, .ref a :: st, h) ↔ az_mn (h.1 a) (fun x => az_p14 C Q (10, lv, .int x :: st, h)) := az_wp_iff.trans az_go_aln
theorem az_s14_10 {x y : Int32} : az_p14 C Q (10, lv, .int y :: .int x :: st, h) ↔ (y ≤ x → az_p14 C Q (22, lv, st, h)) ∧ (¬ y ≤ x → az_p14 C Q (13, lv, st, h)) := az_wp_iff.trans (az_go_if2 az_d_eq)
theorem az_s14_13 : az_p14 C Q (13, lv, st, h) ↔ az_ma (lv 0) (fun x => az_p14 C Q (14, lv, x :: st, h)) := az_wp_iff.trans az_go_lda
theorem az_s14_14 {a : Nat} : az_p14 C Q (14, lv, .ref a :: st, h) ↔ az_mf (h.1 a) 2 1 (fun v => az_p14 C Q (17, lv, v :: st, h)) := az_wp_iff.trans az_go_gf
theorem az_s14_17 : az_p14 C Q (17, lv, st, h) ↔ az_mi (lv 1) (fun x => az_p14 C Q (18, lv, .int x :: st, h)) := az_wp_iff.trans az_go_ldi
theorem az_s14_18 {a : Nat} {i : Int32} : az_p14 C Q (18, lv, .int i :: .ref a :: st, h) ↔ az_mra (h.1 a) i.toInt (fun x => az_p14 C Q (19, lv, x :: st, h)) := az_wp_iff.trans az_go_aal
theorem az_s14_19 : az_p14 C Q (19, lv, st, h) ↔ az_p14 C Q (23, lv, st, h) := az_wp_iff
theorem az_s14_22 : az_p14 C Q (22, lv, st, h) ↔ az_p14 C Q (23, lv, .null :: st, h) := az_wp_iff
theorem az_s14_23 {x : Nat} : az_p14 C Q (23, lv, [.ref x], h) ↔ Q (some (.ref x)) h := az_wp_iff
theorem az_s14_23n : az_p14 C Q (23, lv, [.null], h) ↔ Q (some .null) h := az_wp_iff
def az_p15 (C : az_Cl) (Q : Option Value → az_H → Prop) : az_S → Prop := az_wp C (fun _ => none) (some .boolean) (az_fn az_k15) Q
theorem az_s15_0 : az_p15 C Q (0, lv, st, h) ↔ az_mi (lv 1) (fun x => az_p15 C Q (1, lv, .int x :: st, h)) := az_wp_iff.trans az_go_ldi
theorem az_s15_1 {x : Int32} : az_p15 C Q (1, lv, .int x :: st, h) ↔ (x < 0 → az_p15 C Q (32, lv, st, h)) ∧ (¬ x < 0 → az_p15 C Q (4, lv, st, h)) := az_wp_iff.trans (az_go_if1 az_d_eq)
theorem az_s15_4 : az_p15 C Q (4, lv, st, h) ↔ az_mi (lv 1) (fun x => az_p15 C Q (5, lv, .int x :: st, h)) := az_wp_iff.trans az_go_ldi
theorem az_s15_5 : az_p15 C Q (5, lv, st, h) ↔ az_ma (lv 0) (fun x => az_p15 C Q (6, lv, x :: st, h)) := az_wp_iff.trans az_go_lda
theorem az_s15_6 {a : Nat} : az_p15 C Q (6, lv, .ref a :: st, h) ↔ az_mf (h.1 a) 2 0 (fun v => az_p15 C Q (9, lv, v :: st, h)) := az_wp_iff.trans az_go_gf
theorem az_s15_9 {a : Nat} : az_p15 C Q (9, lv, .ref a :: st, h) ↔ az_mn (h.1 a) (fun x => az_p15 C Q (10, lv, .int x :: st, h)) := az_wp_iff.trans az_go_aln
theorem az_s15_10 {x y : Int32} : az_p15 C Q (10, lv, .int y :: .int x :: st, h) ↔ (y ≤ x → az_p15 C Q (32, lv, st, h)) ∧ (¬ y ≤ x → az_p15 C Q (13, lv, st, h)) := az_wp_iff.trans (az_go_if2 az_d_eq)
theorem az_s15_13 : az_p15 C Q (13, lv, st, h) ↔ az_ma (lv 0) (fun x => az_p15 C Q (14, lv, x :: st, h)) := az_wp_iff.trans az_go_lda
theorem az_s15_14 {a : Nat} : az_p15 C Q (14, lv, .ref a :: st, h) ↔ az_mf (h.1 a) 2 0 (fun v => az_p15 C Q (17, lv, v :: st, h)) := az_wp_iff.trans az_go_gf
theorem az_s15_17 : az_p15 C Q (17, lv, st, h) ↔ az_mi (lv 1) (fun x => az_p15 C Q (18, lv, .int x :: st, h)) := az_wp_iff.trans az_go_ldi
theorem az_s15_18 {a : Nat} {i : Int32} : az_p15 C Q (18, lv, .int i :: .ref a :: st, h) ↔ az_mra (h.1 a) i.toInt (fun x => az_p15 C Q (19, lv, x :: st, h)) := az_wp_iff.trans az_go_aal
theorem az_s15_19n : az_p15 C Q (19, lv, .null :: st, h) ↔ az_p15 C Q (22, lv, st, h) := az_wp_iff
theorem az_s15_19 {x : Nat} : az_p15 C Q (19, lv, .ref x :: st, h) ↔ az_p15 C Q (32, lv, st, h) := az_wp_iff
theorem az_s15_22 : az_p15 C Q (22, lv, st, h) ↔ az_mi (lv 2) (fun x => az_p15 C Q (23, lv, .int x :: st, h)) := az_wp_iff.trans az_go_ldi
theorem az_s15_23 : az_p15 C Q (23, lv, st, h) ↔ az_p15 C Q (24, lv, .int (Int32.ofInt (1)) :: st, h) := az_wp_iff
theorem az_s15_24 : az_p15 C Q (24, lv, st, h) ↔ az_p15 C Q (26, lv, .int (Int32.ofInt (20)) :: st, h) := az_wp_iff
theorem az_s15_26 {v1 v2 v3 : Value} : az_p15 C Q (26, lv, v3 :: v2 :: v1 :: st, h) ↔ az_cat st ≤ 8 ∧ az_mc C 132 [v1, v2, v3] h (fun v h' => az_p15 C Q (29, lv, v ++ st, h')) := az_wp_iff.trans az_go_call
theorem az_s15_29 {x : Int32} : az_p15 C Q (29, lv, .int x :: st, h) ↔ (¬ x = 0 → az_p15 C Q (34, lv, st, h)) ∧ (¬ ¬ x = 0 → az_p15 C Q (32, lv, st, h)) := az_wp_iff.trans (az_go_if1 az_d_eq)
theorem az_s15_32 : az_p15 C Q (32, lv, st, h) ↔ az_p15 C Q (33, lv, .int (Int32.ofInt (0)) :: st, h) := az_wp_iff
theorem az_s15_33 {x : Int32} : az_p15 C Q (33, lv, [.int x], h) ↔ (x = 0 ∨ x = 1) ∧ Q (some (.int x)) h := az_wp_iff.trans az_go_if
theorem az_s15_34 : az_p15 C Q (34, lv, st, h) ↔ az_ma (lv 0) (fun x => az_p15 C Q (35, lv, x :: st, h)) := az_wp_iff.trans az_go_lda
theorem az_s15_35 {a : Nat} : az_p15 C Q (35, lv, .ref a :: st, h) ↔ az_mf (h.1 a) 2 0 (fun v => az_p15 C Q (38, lv, v :: st, h)) := az_wp_iff.trans az_go_gf
theorem az_s15_38 : az_p15 C Q (38, lv, st, h) ↔ az_mi (lv 1) (fun x => az_p15 C Q (39, lv, .int x :: st, h)) := az_wp_iff.trans az_go_ldi
theorem az_s15_39 : az_p15 C Q (39, lv, st, h) ↔ az_p15 C Q (42, lv, .ref h.2.1 :: st, az_nw h (az_ob 0 (az_z 0)) 4) := az_wp_iff
theorem az_s15_42 {x : Int32} : az_p15 C Q (42, lv, .int x :: st, h) ↔ az_p15 C Q (43, lv, .int x :: .int x :: st, h) := az_wp_iff
theorem az_s15_42r {x : Nat} : az_p15 C Q (42, lv, .ref x :: st, h) ↔ az_p15 C Q (43, lv, .ref x :: .ref x :: st, h) := az_wp_iff
theorem az_s15_43 : az_p15 C Q (43, lv, st, h) ↔ az_mi (lv 2) (fun x => az_p15 C Q (44, lv, .int x :: st, h)) := az_wp_iff.trans az_go_ldi
theorem az_s15_44 {a : Nat} {v1 : Value} : az_p15 C Q (44, lv, v1 :: .ref a :: st, h) ↔ az_cat st ≤ 8 ∧ az_mc C 0 [.ref a, v1] h (fun v h' => az_p15 C Q (47, lv, v ++ st, h')) := az_wp_iff.trans az_go_call
theorem az_s15_47 {a v : Nat} {i : Int32} : az_p15 C Q (47, lv, .ref v :: .int i :: .ref a :: st, h) ↔ az_mwa (h.1 a) (h.1 v) i.toInt v (fun c => az_p15 C Q (48, lv, st, az_uh h a c)) := az_wp_iff.trans az_go_aas
theorem az_s15_48 : az_p15 C Q (48, lv, st, h) ↔ az_p15 C Q (49, lv, .int (Int32.ofInt (1)) :: st, h) := az_wp_iff
theorem az_s15_49 {x : Int32} : az_p15 C Q (49, lv, [.int x], h) ↔ (x = 0 ∨ x = 1) ∧ Q (some (.int x)) h := az_wp_iff.trans az_go_if
def az_p16 (C : az_Cl) (Q : Option Value → az_H → Prop) : az_S → Prop := az_wp C (fun _ => none) (some .boolean) (az_fn az_k16) Q
theorem az_s16_0 : az_p16 C Q (0, lv, st, h) ↔ az_mi (lv 1) (fun x => az_p16 C Q (1, lv, .int x :: st, h)) := az_wp_iff.trans az_go_ldi
theorem az_s16_1 {x : Int32} : az_p16 C Q (1, lv, .int x :: st, h) ↔ (x < 0 → az_p16 C Q (22, lv, st, h)) ∧ (¬ x < 0 → az_p16 C Q (4, lv, st, h)) := az_wp_iff.trans (az_go_if1 az_d_eq)
theorem az_s16_4 : az_p16 C Q (4, lv, st, h) ↔ az_mi (lv 1) (fun x => az_p16 C Q (5, lv, .int x :: st, h)) := az_wp_iff.trans az_go_ldi
theorem az_s16_5 : az_p16 C Q (5, lv, st, h) ↔ az_ma (lv 0) (fun x => az_p16 C Q (6, lv, x :: st, h)) := az_wp_iff.trans az_go_lda
theorem az_s16_6 {a : Nat} : az_p16 C Q (6, lv, .ref a :: st, h) ↔ az_mf (h.1 a) 2 1 (fun v => az_p16 C Q (9, lv, v :: st, h)) := az_wp_iff.trans az_go_gf
theorem az_s16_9 {a : Nat} : az_p16 C Q (9, lv, .ref a :: st, h) ↔ az_mn (h.1 a) (fun x => az_p16 C Q (10, lv, .int x :: st, h)) := az_wp_iff.trans az_go_aln
theorem az_s16_10 {x y : Int32} : az_p16 C Q (10, lv, .int y :: .int x :: st, h) ↔ (y ≤ x → az_p16 C Q (22, lv, st, h)) ∧ (¬ y ≤ x → az_p16 C Q (13, lv, st, h)) := az_wp_iff.trans (az_go_if2 az_d_eq)
theorem az_s16_13 : az_p16 C Q (13, lv, st, h) ↔ az_ma (lv 0) (fun x => az_p16 C Q (14, lv, x :: st, h)) := az_wp_iff.trans az_go_lda
theorem az_s16_14 {a : Nat} : az_p16 C Q (14, lv, .ref a :: st, h) ↔ az_mf (h.1 a) 2 1 (fun v => az_p16 C Q (17, lv, v :: st, h)) := az_wp_iff.trans az_go_gf
theorem az_s16_17 : az_p16 C Q (17, lv, st, h) ↔ az_mi (lv 1) (fun x => az_p16 C Q (18, lv, .int x :: st, h)) := az_wp_iff.trans az_go_ldi
theorem az_s16_18 {a : Nat} {i : Int32} : az_p16 C Q (18, lv, .int i :: .ref a :: st, h) ↔ az_mra (h.1 a) i.toInt (fun x => az_p16 C Q (19, lv, x :: st, h)) := az_wp_iff.trans az_go_aal
theorem az_s16_19n : az_p16 C Q (19, lv, .null :: st, h) ↔ az_p16 C Q (24, lv, st, h) := az_wp_iff
theorem az_s16_19 {x : Nat} : az_p16 C Q (19, lv, .ref x :: st, h) ↔ az_p16 C Q (22, lv, st, h) := az_wp_iff
theorem az_s16_22 : az_p16 C Q (22, lv, st, h) ↔ az_p16 C Q (23, lv, .int (Int32.ofInt (0)) :: st, h) := az_wp_iff
theorem az_s16_23 {x : Int32} : az_p16 C Q (23, lv, [.int x], h) ↔ (x = 0 ∨ x = 1) ∧ Q (some (.int x)) h := az_wp_iff.trans az_go_if
theorem az_s16_24 : az_p16 C Q (24, lv, st, h) ↔ az_mi (lv 2) (fun x => az_p16 C Q (25, lv, .int x :: st, h)) := az_wp_iff.trans az_go_ldi
theorem az_s16_25 : az_p16 C Q (25, lv, st, h) ↔ az_mi (lv 3) (fun x => az_p16 C Q (26, lv, .int x :: st, h)) := az_wp_iff.trans az_go_ldi
theorem az_s16_26 {v1 v2 : Value} : az_p16 C Q (26, lv, v2 :: v1 :: st, h) ↔ az_cat st ≤ 8 ∧ az_mc C 79 [v1, v2] h (fun v h' => az_p16 C Q (29, lv, v ++ st, h')) := az_wp_iff.trans az_go_call
theorem az_s16_29 {x : Int32} : az_p16 C Q (29, lv, .int x :: st, h) ↔ (x = 0 → az_p16 C Q (43, lv, st, h)) ∧ (¬ x = 0 → az_p16 C Q (32, lv, st, h)) := az_wp_iff.trans (az_go_if1 az_d_eq)
theorem az_s16_32 : az_p16 C Q (32, lv, st, h) ↔ az_mi (lv 4) (fun x => az_p16 C Q (34, lv, .int x :: st, h)) := az_wp_iff.trans az_go_ldi
theorem az_s16_34 : az_p16 C Q (34, lv, st, h) ↔ az_p16 C Q (35, lv, .int (Int32.ofInt (1)) :: st, h) := az_wp_iff
theorem az_s16_35 : az_p16 C Q (35, lv, st, h) ↔ az_p16 C Q (37, lv, .int (Int32.ofInt (20)) :: st, h) := az_wp_iff
theorem az_s16_37 {v1 v2 v3 : Value} : az_p16 C Q (37, lv, v3 :: v2 :: v1 :: st, h) ↔ az_cat st ≤ 8 ∧ az_mc C 132 [v1, v2, v3] h (fun v h' => az_p16 C Q (40, lv, v ++ st, h')) := az_wp_iff.trans az_go_call
theorem az_s16_40 {x : Int32} : az_p16 C Q (40, lv, .int x :: st, h) ↔ (¬ x = 0 → az_p16 C Q (45, lv, st, h)) ∧ (¬ ¬ x = 0 → az_p16 C Q (43, lv, st, h)) := az_wp_iff.trans (az_go_if1 az_d_eq)
theorem az_s16_43 : az_p16 C Q (43, lv, st, h) ↔ az_p16 C Q (44, lv, .int (Int32.ofInt (0)) :: st, h) := az_wp_iff
theorem az_s16_44 {x : Int32} : az_p16 C Q (44, lv, [.int x], h) ↔ (x = 0 ∨ x = 1) ∧ Q (some (.int x)) h := az_wp_iff.trans az_go_if
theorem az_s16_45 : az_p16 C Q (45, lv, st, h) ↔ az_ma (lv 0) (fun x => az_p16 C Q (46, lv, x :: st, h)) := az_wp_iff.trans az_go_lda
theorem az_s16_46 {a : Nat} : az_p16 C Q (46, lv, .ref a :: st, h) ↔ az_mf (h.1 a) 2 1 (fun v => az_p16 C Q (49, lv, v :: st, h)) := az_wp_iff.trans az_go_gf
theorem az_s16_49 : az_p16 C Q (49, lv, st, h) ↔ az_mi (lv 1) (fun x => az_p16 C Q (50, lv, .int x :: st, h)) := az_wp_iff.trans az_go_ldi
theorem az_s16_50 : az_p16 C Q (50, lv, st, h) ↔ az_p16 C Q (53, lv, .ref h.2.1 :: st, az_nw h (az_ob 8 (az_z 8)) 20) := az_wp_iff
theorem az_s16_53 {x : Int32} : az_p16 C Q (53, lv, .int x :: st, h) ↔ az_p16 C Q (54, lv, .int x :: .int x :: st, h) := az_wp_iff
theorem az_s16_53r {x : Nat} : az_p16 C Q (53, lv, .ref x :: st, h) ↔ az_p16 C Q (54, lv, .ref x :: .ref x :: st, h) := az_wp_iff
theorem az_s16_54 : az_p16 C Q (54, lv, st, h) ↔ az_mi (lv 1) (fun x => az_p16 C Q (55, lv, .int x :: st, h)) := az_wp_iff.trans az_go_ldi
theorem az_s16_55 : az_p16 C Q (55, lv, st, h) ↔ az_mi (lv 2) (fun x => az_p16 C Q (56, lv, .int x :: st, h)) := az_wp_iff.trans az_go_ldi
theorem az_s16_56 : az_p16 C Q (56, lv, st, h) ↔ az_mi (lv 3) (fun x => az_p16 C Q (57, lv, .int x :: st, h)) := az_wp_iff.trans az_go_ldi
theorem az_s16_57 : az_p16 C Q (57, lv, st, h) ↔ az_mi (lv 4) (fun x => az_p16 C Q (59, lv, .int x :: st, h)) := az_wp_iff.trans az_go_ldi
theorem az_s16_59 {a : Nat} {v1 v2 v3 v4 : Value} : az_p16 C Q (59, lv, v4 :: v3 :: v2 :: v1 :: .ref a :: st, h) ↔ az_cat st ≤ 8 ∧ az_mc C 78 [.ref a, v1, v2, v3, v4] h (fun v h' => az_p16 C Q (62, lv, v ++ st, h')) := az_wp_iff.trans az_go_call
theorem az_s16_62 {a v : Nat} {i : Int32} : az_p16 C Q (62, lv, .ref v :: .int i :: .ref a :: st, h) ↔ az_mwa (h.1 a) (h.1 v) i.toInt v (fun c => az_p16 C Q (63, lv, st, az_uh h a c)) := az_wp_iff.trans az_go_aas
theorem az_s16_63 : az_p16 C Q (63, lv, st, h) ↔ az_ma (lv 0) (fun x => az_p16 C Q (64, lv, x :: st, h)) := az_wp_iff.trans az_go_lda
theorem az_s16_64 {x : Int32} : az_p16 C Q (64, lv, .int x :: st, h) ↔ az_p16 C Q (65, lv, .int x :: .int x :: st, h) := az_wp_iff
theorem az_s16_64r {x : Nat} : az_p16 C Q (64, lv, .ref x :: st, h) ↔ az_p16 C Q (65, lv, .ref x :: .ref x :: st, h) := az_wp_iff
theorem az_s16_65 {a : Nat} : az_p16 C Q (65, lv, .ref a :: st, h) ↔ az_mf (h.1 a) 2 2 (fun v => az_p16 C Q (68, lv, v :: st, h)) := az_wp_iff.trans az_go_gf
theorem az_s16_68 : az_p16 C Q (68, lv, st, h) ↔ az_p16 C Q (69, lv, .int (Int32.ofInt (1)) :: st, h) := az_wp_iff
theorem az_s16_69 {x y : Int32} : az_p16 C Q (69, lv, .int y :: .int x :: st, h) ↔ az_p16 C Q (70, lv, .int (x + y) :: st, h) := az_wp_iff
theorem az_s16_70 {a : Nat} {v : Value} : az_p16 C Q (70, lv, v :: .ref a :: st, h) ↔ az_mp (h.1 a) 2 2 0 v (fun c => az_p16 C Q (73, lv, st, az_uh h a c)) := az_wp_iff.trans az_go_pf
theorem az_s16_73 : az_p16 C Q (73, lv, st, h) ↔ az_p16 C Q (74, lv, .int (Int32.ofInt (1)) :: st, h) := az_wp_iff
theorem az_s16_74 {x : Int32} : az_p16 C Q (74, lv, [.int x], h) ↔ (x = 0 ∨ x = 1) ∧ Q (some (.int x)) h := az_wp_iff.trans az_go_if
def az_p17 (C : az_Cl) (Q : Option Value → az_H → Prop) : az_S → Prop := az_wp C (fun _ => none) (some .int) (az_fn az_k17) Q
theorem az_s17_0 : az_p17 C Q (0, lv, st, h) ↔ az_p17 C Q (1, lv, .int (Int32.ofInt (0)) :: st, h) := az_wp_iff
theorem az_s17_1 {x : Int32} : az_p17 C Q (1, lv, .int x :: st, h) ↔ az_p17 C Q (2, (az_s1 lv 1 (.int x)), st, h) := az_wp_iff
theorem az_s17_2 : az_p17 C Q (2, lv, st, h) ↔ az_mi (lv 1) (fun x => az_p17 C Q (3, lv, .int x :: st, h)) := az_wp_iff.trans az_go_ldi
theorem az_s17_3 : az_p17 C Q (3, lv, st, h) ↔ az_p17 C Q (5, lv, .int (Int32.ofInt (12)) :: st, h) := az_wp_iff
theorem az_s17_5 {x y : Int32} : az_p17 C Q (5, lv, .int y :: .int x :: st, h) ↔ (y ≤ x → az_p17 C Q (45, lv, st, h)) ∧ (¬ y ≤ x → az_p17 C Q (8, lv, st, h)) := az_wp_iff.trans (az_go_if2 az_d_eq)
theorem az_s17_8 : az_p17 C Q (8, lv, st, h) ↔ az_ma (lv 0) (fun x => az_p17 C Q (9, lv, x :: st, h)) := az_wp_iff.trans az_go_lda
theorem az_s17_9 : az_p17 C Q (9, lv, st, h) ↔ az_mi (lv 1) (fun x => az_p17 C Q (10, lv, .int x :: st, h)) := az_wp_iff.trans az_go_ldi
theorem az_s17_10 {a : Nat} {v1 : Value} : az_p17 C Q (10, lv, v1 :: .ref a :: st, h) ↔ az_isob (h.1 a) 2 = true ∧ az_cat st ≤ 8 ∧ az_mc C 14 [.ref a, v1] h (fun v h' => az_p17 C Q (13, lv, v ++ st, h')) := az_wp_iff.trans (az_go_if.trans (and_congr Iff.rfl az_go_call))
theorem az_s17_13 {x : Nat} : az_p17 C Q (13, lv, .ref x :: st, h) ↔ az_p17 C Q (14, (az_s1 lv 2 (.ref x)), st, h) := az_wp_iff
theorem az_s17_13n : az_p17 C Q (13, lv, .null :: st, h) ↔ az_p17 C Q (14, (az_s1 lv 2 .null), st, h) := az_wp_iff
theorem az_s17_14 : az_p17 C Q (14, lv, st, h) ↔ az_ma (lv 2) (fun x => az_p17 C Q (15, lv, x :: st, h)) := az_wp_iff.trans az_go_lda
theorem az_s17_15n : az_p17 C Q (15, lv, .null :: st, h) ↔ az_p17 C Q (18, lv, st, h) := az_wp_iff
theorem az_s17_15 {x : Nat} : az_p17 C Q (15, lv, .ref x :: st, h) ↔ az_p17 C Q (22, lv, st, h) := az_wp_iff
theorem az_s17_18 : az_p17 C Q (18, lv, st, h) ↔ az_p17 C Q (19, lv, .int (Int32.ofInt (0)) :: st, h) := az_wp_iff
theorem az_s17_19 : az_p17 C Q (19, lv, st, h) ↔ az_p17 C Q (27, lv, st, h) := az_wp_iff
theorem az_s17_22 : az_p17 C Q (22, lv, st, h) ↔ az_ma (lv 0) (fun x => az_p17 C Q (23, lv, x :: st, h)) := az_wp_iff.trans az_go_lda
theorem az_s17_23 : az_p17 C Q (23, lv, st, h) ↔ az_ma (lv 2) (fun x => az_p17 C Q (24, lv, x :: st, h)) := az_wp_iff.trans az_go_lda
theorem az_s17_24 {a : Nat} {v1 : Value} : az_p17 C Q (24, lv, v1 :: .ref a :: st, h) ↔ az_isob (h.1 a) 2 = true ∧ az_cat st ≤ 8 ∧ az_mc C 18 [.ref a, v1] h (fun v h' => az_p17 C Q (27, lv, v ++ st, h')) := az_wp_iff.trans (az_go_if.trans (and_congr Iff.rfl az_go_call))
theorem az_s17_27 {x : Int32} : az_p17 C Q (27, lv, .int x :: st, h) ↔ az_p17 C Q (28, (az_s1 lv 3 (.int x)), st, h) := az_wp_iff
theorem az_s17_28 : az_p17 C Q (28, lv, st, h) ↔ az_mi (lv 3) (fun x => az_p17 C Q (29, lv, .int x :: st, h)) := az_wp_iff.trans az_go_ldi
theorem az_s17_29 {x : Int32} : az_p17 C Q (29, lv, .int x :: st, h) ↔ (x = 0 → az_p17 C Q (39, lv, st, h)) ∧ (¬ x = 0 → az_p17 C Q (32, lv, st, h)) := az_wp_iff.trans (az_go_if1 az_d_eq)
theorem az_s17_32 : az_p17 C Q (32, lv, st, h) ↔ az_p17 C Q (34, lv, .int (Int32.ofInt (100)) :: st, h) := az_wp_iff
theorem az_s17_34 : az_p17 C Q (34, lv, st, h) ↔ az_mi (lv 1) (fun x => az_p17 C Q (35, lv, .int x :: st, h)) := az_wp_iff.trans az_go_ldi
theorem az_s17_35 {x y : Int32} : az_p17 C Q (35, lv, .int y :: .int x :: st, h) ↔ az_p17 C Q (36, lv, .int (x * y) :: st, h) := az_wp_iff
theorem az_s17_36 : az_p17 C Q (36, lv, st, h) ↔ az_mi (lv 3) (fun x => az_p17 C Q (37, lv, .int x :: st, h)) := az_wp_iff.trans az_go_ldi
theorem az_s17_37 {x y : Int32} : az_p17 C Q (37, lv, .int y :: .int x :: st, h) ↔ az_p17 C Q (38, lv, .int (x + y) :: st, h) := az_wp_iff
theorem az_s17_38 {x : Int32} : az_p17 C Q (38, lv, [.int x], h) ↔ Q (some (.int x)) h := az_wp_iff
theorem az_s17_39 : az_p17 C Q (39, lv, st, h) ↔ az_mi (lv 1) (fun x => az_p17 C Q (42, (az_s1 lv 1 (.int (x + Int32.ofInt (1)))), st, h)) := az_wp_iff.trans az_go_inc
theorem az_s17_42 : az_p17 C Q (42, lv, st, h) ↔ az_p17 C Q (2, lv, st, h) := az_wp_iff
theorem az_s17_45 : az_p17 C Q (45, lv, st, h) ↔ az_p17 C Q (46, lv, .int (Int32.ofInt (0)) :: st, h) := az_wp_iff
theorem az_s17_46 {x : Int32} : az_p17 C Q (46, lv, [.int x], h) ↔ Q (some (.int x)) h := az_wp_iff
def az_p18 (C : az_Cl) (Q : Option Value → az_H → Prop) : az_S → Prop := az_wp C (fun _ => none) (some .int) (az_fn az_k18) Q
theorem az_s18_0 : az_p18 C Q (0, lv, st, h) ↔ az_ma (lv 1) (fun x => az_p18 C Q (1, lv, x :: st, h)) := az_wp_iff.trans az_go_lda
theorem az_s18_1 {a : Nat} : az_p18 C Q (1, lv, .ref a :: st, h) ↔ az_mf (h.1 a) 8 5 (fun v => az_p18 C Q (4, lv, v :: st, h)) := az_wp_iff.trans az_go_gf
theorem az_s18_4 : az_p18 C Q (4, lv, st, h) ↔ az_ma (lv 1) (fun x => az_p18 C Q (5, lv, x :: st, h)) := az_wp_iff.trans az_go_lda
theorem az_s18_5 {a : Nat}  : az_p18 C Q (5, lv, .ref a :: st, h) ↔ az_isob (h.1 a) 8 = true ∧ az_cat st ≤ 8 ∧ az_mc C 80 [.ref a] h (fun v h' => az_p18 C Q (8, lv, v ++ st, h')) := az_wp_iff.trans (az_go_if.trans (and_congr Iff.rfl az_go_call))
theorem az_s18_8 {x y : Int32} : az_p18 C Q (8, lv, .int y :: .int x :: st, h) ↔ (y ≤ x → az_p18 C Q (13, lv, st, h)) ∧ (¬ y ≤ x → az_p18 C Q (11, lv, st, h)) := az_wp_iff.trans (az_go_if2 az_d_eq)
theorem az_s18_11 : az_p18 C Q (11, lv, st, h) ↔ az_p18 C Q (12, lv, .int (Int32.ofInt (1)) :: st, h) := az_wp_iff
theorem az_s18_12 {x : Int32} : az_p18 C Q (12, lv, [.int x], h) ↔ Q (some (.int x)) h := az_wp_iff
theorem az_s18_13 : az_p18 C Q (13, lv, st, h) ↔ az_ma (lv 1) (fun x => az_p18 C Q (14, lv, x :: st, h)) := az_wp_iff.trans az_go_lda
theorem az_s18_14 {a : Nat} : az_p18 C Q (14, lv, .ref a :: st, h) ↔ az_mf (h.1 a) 8 8 (fun v => az_p18 C Q (17, lv, v :: st, h)) := az_wp_iff.trans az_go_gf
theorem az_s18_17 : az_p18 C Q (17, lv, st, h) ↔ az_ma (lv 1) (fun x => az_p18 C Q (18, lv, x :: st, h)) := az_wp_iff.trans az_go_lda
theorem az_s18_18 {a : Nat}  : az_p18 C Q (18, lv, .ref a :: st, h) ↔ az_isob (h.1 a) 8 = true ∧ az_cat st ≤ 8 ∧ az_mc C 81 [.ref a] h (fun v h' => az_p18 C Q (21, lv, v ++ st, h')) := az_wp_iff.trans (az_go_if.trans (and_congr Iff.rfl az_go_call))
theorem az_s18_21 {x y : Int32} : az_p18 C Q (21, lv, .int y :: .int x :: st, h) ↔ (y ≤ x → az_p18 C Q (26, lv, st, h)) ∧ (¬ y ≤ x → az_p18 C Q (24, lv, st, h)) := az_wp_iff.trans (az_go_if2 az_d_eq)
theorem az_s18_24 : az_p18 C Q (24, lv, st, h) ↔ az_p18 C Q (25, lv, .int (Int32.ofInt (2)) :: st, h) := az_wp_iff
theorem az_s18_25 {x : Int32} : az_p18 C Q (25, lv, [.int x], h) ↔ Q (some (.int x)) h := az_wp_iff
theorem az_s18_26 : az_p18 C Q (26, lv, st, h) ↔ az_ma (lv 1) (fun x => az_p18 C Q (27, lv, x :: st, h)) := az_wp_iff.trans az_go_lda
theorem az_s18_27 {a : Nat}  : az_p18 C Q (27, lv, .ref a :: st, h) ↔ az_isob (h.1 a) 8 = true ∧ az_cat st ≤ 8 ∧ az_mc C 91 [.ref a] h (fun v h' => az_p18 C Q (30, lv, v ++ st, h')) := az_wp_iff.trans (az_go_if.trans (and_congr Iff.rfl az_go_call))
theorem az_s18_30 {x : Int32} : az_p18 C Q (30, lv, .int x :: st, h) ↔ (¬ x = 0 → az_p18 C Q (35, lv, st, h)) ∧ (¬ ¬ x = 0 → az_p18 C Q (33, lv, st, h)) := az_wp_iff.trans (az_go_if1 az_d_eq)
theorem az_s18_33 : az_p18 C Q (33, lv, st, h) ↔ az_p18 C Q (34, lv, .int (Int32.ofInt (3)) :: st, h) := az_wp_iff
theorem az_s18_34 {x : Int32} : az_p18 C Q (34, lv, [.int x], h) ↔ Q (some (.int x)) h := az_wp_iff
theorem az_s18_35 : az_p18 C Q (35, lv, st, h) ↔ az_ma (lv 1) (fun x => az_p18 C Q (36, lv, x :: st, h)) := az_wp_iff.trans az_go_lda
theorem az_s18_36 {a : Nat}  : az_p18 C Q (36, lv, .ref a :: st, h) ↔ az_isob (h.1 a) 8 = true ∧ az_cat st ≤ 8 ∧ az_mc C 90 [.ref a] h (fun v h' => az_p18 C Q (39, lv, v ++ st, h')) := az_wp_iff.trans (az_go_if.trans (and_congr Iff.rfl az_go_call))
theorem az_s18_39 {x : Int32} : az_p18 C Q (39, lv, .int x :: st, h) ↔ (¬ x = 0 → az_p18 C Q (50, lv, st, h)) ∧ (¬ ¬ x = 0 → az_p18 C Q (42, lv, st, h)) := az_wp_iff.trans (az_go_if1 az_d_eq)
theorem az_s18_42 : az_p18 C Q (42, lv, st, h) ↔ az_ma (lv 0) (fun x => az_p18 C Q (43, lv, x :: st, h)) := az_wp_iff.trans az_go_lda
theorem az_s18_43 : az_p18 C Q (43, lv, st, h) ↔ az_ma (lv 1) (fun x => az_p18 C Q (44, lv, x :: st, h)) := az_wp_iff.trans az_go_lda
theorem az_s18_44 {a : Nat} {v1 : Value} : az_p18 C Q (44, lv, v1 :: .ref a :: st, h) ↔ az_isob (h.1 a) 2 = true ∧ az_cat st ≤ 8 ∧ az_mc C 19 [.ref a, v1] h (fun v h' => az_p18 C Q (47, lv, v ++ st, h')) := az_wp_iff.trans (az_go_if.trans (and_congr Iff.rfl az_go_call))
theorem az_s18_47 {x : Int32} : az_p18 C Q (47, lv, .int x :: st, h) ↔ (x = 0 → az_p18 C Q (54, lv, st, h)) ∧ (¬ x = 0 → az_p18 C Q (50, lv, st, h)) := az_wp_iff.trans (az_go_if1 az_d_eq)
theorem az_s18_50 : az_p18 C Q (50, lv, st, h) ↔ az_p18 C Q (51, lv, .int (Int32.ofInt (4)) :: st, h) := az_wp_iff
theorem az_s18_51 : az_p18 C Q (51, lv, st, h) ↔ az_p18 C Q (55, lv, st, h) := az_wp_iff
theorem az_s18_54 : az_p18 C Q (54, lv, st, h) ↔ az_p18 C Q (55, lv, .int (Int32.ofInt (0)) :: st, h) := az_wp_iff
theorem az_s18_55 {x : Int32} : az_p18 C Q (55, lv, [.int x], h) ↔ Q (some (.int x)) h := az_wp_iff
def az_p19 (C : az_Cl) (Q : Option Value → az_H → Prop) : az_S → Prop := az_wp C (fun _ => none) (some .boolean) (az_fn az_k19) Q
theorem az_s19_0 : az_p19 C Q (0, lv, st, h) ↔ az_p19 C Q (1, lv, .int (Int32.ofInt (0)) :: st, h) := az_wp_iff
theorem az_s19_1 {x : Int32} : az_p19 C Q (1, lv, .int x :: st, h) ↔ az_p19 C Q (2, (az_s1 lv 2 (.int x)), st, h) := az_wp_iff
theorem az_s19_2 : az_p19 C Q (2, lv, st, h) ↔ az_mi (lv 2) (fun x => az_p19 C Q (3, lv, .int x :: st, h)) := az_wp_iff.trans az_go_ldi
theorem az_s19_3 : az_p19 C Q (3, lv, st, h) ↔ az_ma (lv 1) (fun x => az_p19 C Q (4, lv, x :: st, h)) := az_wp_iff.trans az_go_lda
theorem az_s19_4 {a : Nat} : az_p19 C Q (4, lv, .ref a :: st, h) ↔ az_mf (h.1 a) 8 0 (fun v => az_p19 C Q (7, lv, v :: st, h)) := az_wp_iff.trans az_go_gf
theorem az_s19_7 {x y : Int32} : az_p19 C Q (7, lv, .int y :: .int x :: st, h) ↔ (y ≤ x → az_p19 C Q (59, lv, st, h)) ∧ (¬ y ≤ x → az_p19 C Q (10, lv, st, h)) := az_wp_iff.trans (az_go_if2 az_d_eq)
theorem az_s19_10 : az_p19 C Q (10, lv, st, h) ↔ az_ma (lv 0) (fun x => az_p19 C Q (11, lv, x :: st, h)) := az_wp_iff.trans az_go_lda
theorem az_s19_11 : az_p19 C Q (11, lv, st, h) ↔ az_mi (lv 2) (fun x => az_p19 C Q (12, lv, .int x :: st, h)) := az_wp_iff.trans az_go_ldi
theorem az_s19_12 {a : Nat} {v1 : Value} : az_p19 C Q (12, lv, v1 :: .ref a :: st, h) ↔ az_isob (h.1 a) 2 = true ∧ az_cat st ≤ 8 ∧ az_mc C 14 [.ref a, v1] h (fun v h' => az_p19 C Q (15, lv, v ++ st, h')) := az_wp_iff.trans (az_go_if.trans (and_congr Iff.rfl az_go_call))
theorem az_s19_15 {x : Nat} : az_p19 C Q (15, lv, .ref x :: st, h) ↔ az_p19 C Q (16, (az_s1 lv 3 (.ref x)), st, h) := az_wp_iff
theorem az_s19_15n : az_p19 C Q (15, lv, .null :: st, h) ↔ az_p19 C Q (16, (az_s1 lv 3 .null), st, h) := az_wp_iff
theorem az_s19_16 : az_p19 C Q (16, lv, st, h) ↔ az_p19 C Q (17, lv, .int (Int32.ofInt (0)) :: st, h) := az_wp_iff
theorem az_s19_17 {x : Int32} : az_p19 C Q (17, lv, .int x :: st, h) ↔ az_p19 C Q (19, (az_s1 lv 4 (.int x)), st, h) := az_wp_iff
theorem az_s19_19 : az_p19 C Q (19, lv, st, h) ↔ az_ma (lv 3) (fun x => az_p19 C Q (20, lv, x :: st, h)) := az_wp_iff.trans az_go_lda
theorem az_s19_20n : az_p19 C Q (20, lv, .null :: st, h) ↔ az_p19 C Q (53, lv, st, h) := az_wp_iff
theorem az_s19_20 {x : Nat} : az_p19 C Q (20, lv, .ref x :: st, h) ↔ az_p19 C Q (23, lv, st, h) := az_wp_iff
theorem az_s19_23 : az_p19 C Q (23, lv, st, h) ↔ az_mi (lv 4) (fun x => az_p19 C Q (25, lv, .int x :: st, h)) := az_wp_iff.trans az_go_ldi
theorem az_s19_25 : az_p19 C Q (25, lv, st, h) ↔ az_ma (lv 1) (fun x => az_p19 C Q (26, lv, x :: st, h)) := az_wp_iff.trans az_go_lda
theorem az_s19_26 {a : Nat} : az_p19 C Q (26, lv, .ref a :: st, h) ↔ az_mf (h.1 a) 8 5 (fun v => az_p19 C Q (29, lv, v :: st, h)) := az_wp_iff.trans az_go_gf
theorem az_s19_29 {x y : Int32} : az_p19 C Q (29, lv, .int y :: .int x :: st, h) ↔ (y ≤ x → az_p19 C Q (53, lv, st, h)) ∧ (¬ y ≤ x → az_p19 C Q (32, lv, st, h)) := az_wp_iff.trans (az_go_if2 az_d_eq)
theorem az_s19_32 : az_p19 C Q (32, lv, st, h) ↔ az_ma (lv 3) (fun x => az_p19 C Q (33, lv, x :: st, h)) := az_wp_iff.trans az_go_lda
theorem az_s19_33 : az_p19 C Q (33, lv, st, h) ↔ az_ma (lv 1) (fun x => az_p19 C Q (34, lv, x :: st, h)) := az_wp_iff.trans az_go_lda
theorem az_s19_34 : az_p19 C Q (34, lv, st, h) ↔ az_mi (lv 4) (fun x => az_p19 C Q (36, lv, .int x :: st, h)) := az_wp_iff.trans az_go_ldi
theorem az_s19_36 {a : Nat} {v1 : Value} : az_p19 C Q (36, lv, v1 :: .ref a :: st, h) ↔ az_isob (h.1 a) 8 = true ∧ az_cat st ≤ 8 ∧ az_mc C 85 [.ref a, v1] h (fun v h' => az_p19 C Q (39, lv, v ++ st, h')) := az_wp_iff.trans (az_go_if.trans (and_congr Iff.rfl az_go_call))
theorem az_s19_39 {a : Nat} {v1 : Value} : az_p19 C Q (39, lv, v1 :: .ref a :: st, h) ↔ az_isob (h.1 a) 8 = true ∧ az_cat st ≤ 8 ∧ az_mc C 89 [.ref a, v1] h (fun v h' => az_p19 C Q (42, lv, v ++ st, h')) := az_wp_iff.trans (az_go_if.trans (and_congr Iff.rfl az_go_call))
theorem az_s19_42 {x : Int32} : az_p19 C Q (42, lv, .int x :: st, h) ↔ (x = 0 → az_p19 C Q (47, lv, st, h)) ∧ (¬ x = 0 → az_p19 C Q (45, lv, st, h)) := az_wp_iff.trans (az_go_if1 az_d_eq)
theorem az_s19_45 : az_p19 C Q (45, lv, st, h) ↔ az_p19 C Q (46, lv, .int (Int32.ofInt (1)) :: st, h) := az_wp_iff
theorem az_s19_46 {x : Int32} : az_p19 C Q (46, lv, [.int x], h) ↔ (x = 0 ∨ x = 1) ∧ Q (some (.int x)) h := az_wp_iff.trans az_go_if
theorem az_s19_47 : az_p19 C Q (47, lv, st, h) ↔ az_mi (lv 4) (fun x => az_p19 C Q (50, (az_s1 lv 4 (.int (x + Int32.ofInt (1)))), st, h)) := az_wp_iff.trans az_go_inc
theorem az_s19_50 : az_p19 C Q (50, lv, st, h) ↔ az_p19 C Q (19, lv, st, h) := az_wp_iff
theorem az_s19_53 : az_p19 C Q (53, lv, st, h) ↔ az_mi (lv 2) (fun x => az_p19 C Q (56, (az_s1 lv 2 (.int (x + Int32.ofInt (1)))), st, h)) := az_wp_iff.trans az_go_inc
theorem az_s19_56 : az_p19 C Q (56, lv, st, h) ↔ az_p19 C Q (2, lv, st, h) := az_wp_iff
theorem az_s19_59 : az_p19 C Q (59, lv, st, h) ↔ az_p19 C Q (60, lv, .int (Int32.ofInt (0)) :: st, h) := az_wp_iff
theorem az_s19_60 {x : Int32} : az_p19 C Q (60, lv, [.int x], h) ↔ (x = 0 ∨ x = 1) ∧ Q (some (.int x)) h := az_wp_iff.trans az_go_if
def az_p20 (C : az_Cl) (Q : Option Value → az_H → Prop) : az_S → Prop := az_wp C (fun _ => none) (some .boolean) (az_fn az_k20) Q
theorem az_s20_0 : az_p20 C Q (0, lv, st, h) ↔ az_ma (lv 1) (fun x => az_p20 C Q (1, lv, x :: st, h)) := az_wp_iff.trans az_go_lda
theorem az_s20_1 : az_p20 C Q (1, lv, st, h) ↔ az_mi (lv 2) (fun x => az_p20 C Q (2, lv, .int x :: st, h)) := az_wp_iff.trans az_go_ldi
theorem az_s20_2 {a : Nat} {v1 : Value} : az_p20 C Q (2, lv, v1 :: .ref a :: st, h) ↔ az_isob (h.1 a) 8 = true ∧ az_cat st ≤ 8 ∧ az_mc C 86 [.ref a, v1] h (fun v h' => az_p20 C Q (5, lv, v ++ st, h')) := az_wp_iff.trans (az_go_if.trans (and_congr Iff.rfl az_go_call))
theorem az_s20_5 {x : Int32} : az_p20 C Q (5, lv, .int x :: st, h) ↔ az_p20 C Q (6, (az_s1 lv 3 (.int x)), st, h) := az_wp_iff
theorem az_s20_6 : az_p20 C Q (6, lv, st, h) ↔ az_ma (lv 0) (fun x => az_p20 C Q (7, lv, x :: st, h)) := az_wp_iff.trans az_go_lda
theorem az_s20_7 : az_p20 C Q (7, lv, st, h) ↔ az_mi (lv 3) (fun x => az_p20 C Q (8, lv, .int x :: st, h)) := az_wp_iff.trans az_go_ldi
theorem az_s20_8 {a : Nat} {v1 : Value} : az_p20 C Q (8, lv, v1 :: .ref a :: st, h) ↔ az_isob (h.1 a) 2 = true ∧ az_cat st ≤ 8 ∧ az_mc C 13 [.ref a, v1] h (fun v h' => az_p20 C Q (11, lv, v ++ st, h')) := az_wp_iff.trans (az_go_if.trans (and_congr Iff.rfl az_go_call))
theorem az_s20_11 {x : Nat} : az_p20 C Q (11, lv, .ref x :: st, h) ↔ az_p20 C Q (13, (az_s1 lv 4 (.ref x)), st, h) := az_wp_iff
theorem az_s20_11n : az_p20 C Q (11, lv, .null :: st, h) ↔ az_p20 C Q (13, (az_s1 lv 4 .null), st, h) := az_wp_iff
theorem az_s20_13 : az_p20 C Q (13, lv, st, h) ↔ az_ma (lv 4) (fun x => az_p20 C Q (15, lv, x :: st, h)) := az_wp_iff.trans az_go_lda
theorem az_s20_15n : az_p20 C Q (15, lv, .null :: st, h) ↔ az_p20 C Q (31, lv, st, h) := az_wp_iff
theorem az_s20_15 {x : Nat} : az_p20 C Q (15, lv, .ref x :: st, h) ↔ az_p20 C Q (18, lv, st, h) := az_wp_iff
theorem az_s20_18 : az_p20 C Q (18, lv, st, h) ↔ az_ma (lv 4) (fun x => az_p20 C Q (20, lv, x :: st, h)) := az_wp_iff.trans az_go_lda
theorem az_s20_20 : az_p20 C Q (20, lv, st, h) ↔ az_ma (lv 1) (fun x => az_p20 C Q (21, lv, x :: st, h)) := az_wp_iff.trans az_go_lda
theorem az_s20_21 : az_p20 C Q (21, lv, st, h) ↔ az_mi (lv 3) (fun x => az_p20 C Q (22, lv, .int x :: st, h)) := az_wp_iff.trans az_go_ldi
theorem az_s20_22 {a : Nat} {v1 : Value} : az_p20 C Q (22, lv, v1 :: .ref a :: st, h) ↔ az_isob (h.1 a) 8 = true ∧ az_cat st ≤ 8 ∧ az_mc C 94 [.ref a, v1] h (fun v h' => az_p20 C Q (25, lv, v ++ st, h')) := az_wp_iff.trans (az_go_if.trans (and_congr Iff.rfl az_go_call))
theorem az_s20_25 {a : Nat} {v1 : Value} : az_p20 C Q (25, lv, v1 :: .ref a :: st, h) ↔ az_isob (h.1 a) 0 = true ∧ az_cat st ≤ 8 ∧ az_mc C 1 [.ref a, v1] h (fun v h' => az_p20 C Q (28, lv, v ++ st, h')) := az_wp_iff.trans (az_go_if.trans (and_congr Iff.rfl az_go_call))
theorem az_s20_28 {x : Int32} : az_p20 C Q (28, lv, .int x :: st, h) ↔ (¬ x = 0 → az_p20 C Q (35, lv, st, h)) ∧ (¬ ¬ x = 0 → az_p20 C Q (31, lv, st, h)) := az_wp_iff.trans (az_go_if1 az_d_eq)
theorem az_s20_31 : az_p20 C Q (31, lv, st, h) ↔ az_p20 C Q (32, lv, .int (Int32.ofInt (1)) :: st, h) := az_wp_iff
theorem az_s20_32 : az_p20 C Q (32, lv, st, h) ↔ az_p20 C Q (36, lv, st, h) := az_wp_iff
theorem az_s20_35 : az_p20 C Q (35, lv, st, h) ↔ az_p20 C Q (36, lv, .int (Int32.ofInt (0)) :: st, h) := az_wp_iff
theorem az_s20_36 {x : Int32} : az_p20 C Q (36, lv, [.int x], h) ↔ (x = 0 ∨ x = 1) ∧ Q (some (.int x)) h := az_wp_iff.trans az_go_if
def az_p21 (C : az_Cl) (Q : Option Value → az_H → Prop) : az_S → Prop := az_wp C (fun _ => none) (some .long) (az_fn az_k21) Q
theorem az_s21_0 : az_p21 C Q (0, lv, st, h) ↔ az_p21 C Q (1, lv, .long (Int64.ofInt (0)) :: st, h) := az_wp_iff
theorem az_s21_1 {x : Int64} : az_p21 C Q (1, lv, .long x :: st, h) ↔ az_p21 C Q (2, (az_s2 lv 2 (.long x)), st, h) := az_wp_iff
theorem az_s21_2 : az_p21 C Q (2, lv, st, h) ↔ az_p21 C Q (3, lv, .int (Int32.ofInt (0)) :: st, h) := az_wp_iff
theorem az_s21_3 {x : Int32} : az_p21 C Q (3, lv, .int x :: st, h) ↔ az_p21 C Q (5, (az_s1 lv 4 (.int x)), st, h) := az_wp_iff
theorem az_s21_5 : az_p21 C Q (5, lv, st, h) ↔ az_mi (lv 4) (fun x => az_p21 C Q (7, lv, .int x :: st, h)) := az_wp_iff.trans az_go_ldi
theorem az_s21_7 : az_p21 C Q (7, lv, st, h) ↔ az_p21 C Q (9, lv, .int (Int32.ofInt (16)) :: st, h) := az_wp_iff
theorem az_s21_9 {x y : Int32} : az_p21 C Q (9, lv, .int y :: .int x :: st, h) ↔ (y ≤ x → az_p21 C Q (44, lv, st, h)) ∧ (¬ y ≤ x → az_p21 C Q (12, lv, st, h)) := az_wp_iff.trans (az_go_if2 az_d_eq)
theorem az_s21_12 : az_p21 C Q (12, lv, st, h) ↔ az_ma (lv 0) (fun x => az_p21 C Q (13, lv, x :: st, h)) := az_wp_iff.trans az_go_lda
theorem az_s21_13 : az_p21 C Q (13, lv, st, h) ↔ az_mi (lv 4) (fun x => az_p21 C Q (15, lv, .int x :: st, h)) := az_wp_iff.trans az_go_ldi
theorem az_s21_15 {a : Nat} {v1 : Value} : az_p21 C Q (15, lv, v1 :: .ref a :: st, h) ↔ az_isob (h.1 a) 2 = true ∧ az_cat st ≤ 8 ∧ az_mc C 13 [.ref a, v1] h (fun v h' => az_p21 C Q (18, lv, v ++ st, h')) := az_wp_iff.trans (az_go_if.trans (and_congr Iff.rfl az_go_call))
theorem az_s21_18 {x : Nat} : az_p21 C Q (18, lv, .ref x :: st, h) ↔ az_p21 C Q (20, (az_s1 lv 5 (.ref x)), st, h) := az_wp_iff
theorem az_s21_18n : az_p21 C Q (18, lv, .null :: st, h) ↔ az_p21 C Q (20, (az_s1 lv 5 .null), st, h) := az_wp_iff
theorem az_s21_20 : az_p21 C Q (20, lv, st, h) ↔ az_ml (lv 2) (fun x => az_p21 C Q (21, lv, .long x :: st, h)) := az_wp_iff.trans az_go_ldl
theorem az_s21_21 : az_p21 C Q (21, lv, st, h) ↔ az_ma (lv 5) (fun x => az_p21 C Q (23, lv, x :: st, h)) := az_wp_iff.trans az_go_lda
theorem az_s21_23n : az_p21 C Q (23, lv, .null :: st, h) ↔ az_p21 C Q (26, lv, st, h) := az_wp_iff
theorem az_s21_23 {x : Nat} : az_p21 C Q (23, lv, .ref x :: st, h) ↔ az_p21 C Q (30, lv, st, h) := az_wp_iff
theorem az_s21_26 : az_p21 C Q (26, lv, st, h) ↔ az_p21 C Q (27, lv, .long (Int64.ofInt (0)) :: st, h) := az_wp_iff
theorem az_s21_27 : az_p21 C Q (27, lv, st, h) ↔ az_p21 C Q (36, lv, st, h) := az_wp_iff
theorem az_s21_30 : az_p21 C Q (30, lv, st, h) ↔ az_ma (lv 5) (fun x => az_p21 C Q (32, lv, x :: st, h)) := az_wp_iff.trans az_go_lda
theorem az_s21_32 : az_p21 C Q (32, lv, st, h) ↔ az_ma (lv 1) (fun x => az_p21 C Q (33, lv, x :: st, h)) := az_wp_iff.trans az_go_lda
theorem az_s21_33 {a : Nat} {v1 : Value} : az_p21 C Q (33, lv, v1 :: .ref a :: st, h) ↔ az_isob (h.1 a) 0 = true ∧ az_cat st ≤ 8 ∧ az_mc C 6 [.ref a, v1] h (fun v h' => az_p21 C Q (36, lv, v ++ st, h')) := az_wp_iff.trans (az_go_if.trans (and_congr Iff.rfl az_go_call))
theorem az_s21_36 {x y : Int64} : az_p21 C Q (36, lv, .long y :: .long x :: st, h) ↔ az_p21 C Q (37, lv, .long (x + y) :: st, h) := az_wp_iff
theorem az_s21_37 {x : Int64} : az_p21 C Q (37, lv, .long x :: st, h) ↔ az_p21 C Q (38, (az_s2 lv 2 (.long x)), st, h) := az_wp_iff
theorem az_s21_38 : az_p21 C Q (38, lv, st, h) ↔ az_mi (lv 4) (fun x => az_p21 C Q (41, (az_s1 lv 4 (.int (x + Int32.ofInt (1)))), st, h)) := az_wp_iff.trans az_go_inc
theorem az_s21_41 : az_p21 C Q (41, lv, st, h) ↔ az_p21 C Q (5, lv, st, h) := az_wp_iff
theorem az_s21_44 : az_p21 C Q (44, lv, st, h) ↔ az_ml (lv 2) (fun x => az_p21 C Q (45, lv, .long x :: st, h)) := az_wp_iff.trans az_go_ldl
theorem az_s21_45 {x : Int64} : az_p21 C Q (45, lv, [.long x], h) ↔ Q (some (.long x)) h := az_wp_iff
def az_p22 (C : az_Cl) (Q : Option Value → az_H → Prop) : az_S → Prop := az_wp C (fun _ => none) (some .long) (az_fn az_k22) Q
theorem az_s22_0 : az_p22 C Q (0, lv, st, h) ↔ az_p22 C Q (1, lv, .long (Int64.ofInt (0)) :: st, h) := az_wp_iff
theorem az_s22_1 {x : Int64} : az_p22 C Q (1, lv, .long x :: st, h) ↔ az_p22 C Q (2, (az_s2 lv 2 (.long x)), st, h) := az_wp_iff
theorem az_s22_2 : az_p22 C Q (2, lv, st, h) ↔ az_p22 C Q (3, lv, .int (Int32.ofInt (0)) :: st, h) := az_wp_iff
theorem az_s22_3 {x : Int32} : az_p22 C Q (3, lv, .int x :: st, h) ↔ az_p22 C Q (5, (az_s1 lv 4 (.int x)), st, h) := az_wp_iff
theorem az_s22_5 : az_p22 C Q (5, lv, st, h) ↔ az_mi (lv 4) (fun x => az_p22 C Q (7, lv, .int x :: st, h)) := az_wp_iff.trans az_go_ldi
theorem az_s22_7 : az_p22 C Q (7, lv, st, h) ↔ az_p22 C Q (9, lv, .int (Int32.ofInt (12)) :: st, h) := az_wp_iff
theorem az_s22_9 {x y : Int32} : az_p22 C Q (9, lv, .int y :: .int x :: st, h) ↔ (y ≤ x → az_p22 C Q (44, lv, st, h)) ∧ (¬ y ≤ x → az_p22 C Q (12, lv, st, h)) := az_wp_iff.trans (az_go_if2 az_d_eq)
theorem az_s22_12 : az_p22 C Q (12, lv, st, h) ↔ az_ma (lv 0) (fun x => az_p22 C Q (13, lv, x :: st, h)) := az_wp_iff.trans az_go_lda
theorem az_s22_13 : az_p22 C Q (13, lv, st, h) ↔ az_mi (lv 4) (fun x => az_p22 C Q (15, lv, .int x :: st, h)) := az_wp_iff.trans az_go_ldi
theorem az_s22_15 {a : Nat} {v1 : Value} : az_p22 C Q (15, lv, v1 :: .ref a :: st, h) ↔ az_isob (h.1 a) 2 = true ∧ az_cat st ≤ 8 ∧ az_mc C 14 [.ref a, v1] h (fun v h' => az_p22 C Q (18, lv, v ++ st, h')) := az_wp_iff.trans (az_go_if.trans (and_congr Iff.rfl az_go_call))
theorem az_s22_18 {x : Nat} : az_p22 C Q (18, lv, .ref x :: st, h) ↔ az_p22 C Q (20, (az_s1 lv 5 (.ref x)), st, h) := az_wp_iff
theorem az_s22_18n : az_p22 C Q (18, lv, .null :: st, h) ↔ az_p22 C Q (20, (az_s1 lv 5 .null), st, h) := az_wp_iff
theorem az_s22_20 : az_p22 C Q (20, lv, st, h) ↔ az_ml (lv 2) (fun x => az_p22 C Q (21, lv, .long x :: st, h)) := az_wp_iff.trans az_go_ldl
theorem az_s22_21 : az_p22 C Q (21, lv, st, h) ↔ az_ma (lv 5) (fun x => az_p22 C Q (23, lv, x :: st, h)) := az_wp_iff.trans az_go_lda
theorem az_s22_23n : az_p22 C Q (23, lv, .null :: st, h) ↔ az_p22 C Q (26, lv, st, h) := az_wp_iff
theorem az_s22_23 {x : Nat} : az_p22 C Q (23, lv, .ref x :: st, h) ↔ az_p22 C Q (30, lv, st, h) := az_wp_iff
theorem az_s22_26 : az_p22 C Q (26, lv, st, h) ↔ az_p22 C Q (27, lv, .long (Int64.ofInt (0)) :: st, h) := az_wp_iff
theorem az_s22_27 : az_p22 C Q (27, lv, st, h) ↔ az_p22 C Q (36, lv, st, h) := az_wp_iff
theorem az_s22_30 : az_p22 C Q (30, lv, st, h) ↔ az_ma (lv 5) (fun x => az_p22 C Q (32, lv, x :: st, h)) := az_wp_iff.trans az_go_lda
theorem az_s22_32 : az_p22 C Q (32, lv, st, h) ↔ az_ma (lv 1) (fun x => az_p22 C Q (33, lv, x :: st, h)) := az_wp_iff.trans az_go_lda
theorem az_s22_33 {a : Nat} {v1 : Value} : az_p22 C Q (33, lv, v1 :: .ref a :: st, h) ↔ az_isob (h.1 a) 8 = true ∧ az_cat st ≤ 8 ∧ az_mc C 99 [.ref a, v1] h (fun v h' => az_p22 C Q (36, lv, v ++ st, h')) := az_wp_iff.trans (az_go_if.trans (and_congr Iff.rfl az_go_call))
theorem az_s22_36 {x y : Int64} : az_p22 C Q (36, lv, .long y :: .long x :: st, h) ↔ az_p22 C Q (37, lv, .long (x + y) :: st, h) := az_wp_iff
theorem az_s22_37 {x : Int64} : az_p22 C Q (37, lv, .long x :: st, h) ↔ az_p22 C Q (38, (az_s2 lv 2 (.long x)), st, h) := az_wp_iff
theorem az_s22_38 : az_p22 C Q (38, lv, st, h) ↔ az_mi (lv 4) (fun x => az_p22 C Q (41, (az_s1 lv 4 (.int (x + Int32.ofInt (1)))), st, h)) := az_wp_iff.trans az_go_inc
theorem az_s22_41 : az_p22 C Q (41, lv, st, h) ↔ az_p22 C Q (5, lv, st, h) := az_wp_iff
theorem az_s22_44 : az_p22 C Q (44, lv, st, h) ↔ az_ml (lv 2) (fun x => az_p22 C Q (45, lv, .long x :: st, h)) := az_wp_iff.trans az_go_ldl
theorem az_s22_45 {x : Int64} : az_p22 C Q (45, lv, [.long x], h) ↔ Q (some (.long x)) h := az_wp_iff
def az_p23 (C : az_Cl) (Q : Option Value → az_H → Prop) : az_S → Prop := az_wp C (fun _ => none) none (az_fn az_k23) Q
theorem az_s23_0 : az_p23 C Q (0, lv, st, h) ↔ az_ma (lv 0) (fun x => az_p23 C Q (1, lv, x :: st, h)) := az_wp_iff.trans az_go_lda
theorem az_s23_1 {a : Nat} : az_p23 C Q (1, lv, .ref a :: st, h) ↔ az_cat st ≤ 8 ∧ az_p23 C Q (4, lv, st, h) := az_wp_iff.trans az_go_if
theorem az_s23_4 : az_p23 C Q (4, lv, st, h) ↔ az_ma (lv 0) (fun x => az_p23 C Q (5, lv, x :: st, h)) := az_wp_iff.trans az_go_lda
theorem az_s23_5 : az_p23 C Q (5, lv, st, h) ↔ az_p23 C Q (7, lv, .int (Int32.ofInt (10)) :: st, h) := az_wp_iff
theorem az_s23_7 {n : Int32} : az_p23 C Q (7, lv, .int n :: st, h) ↔ (0 ≤ n.toInt ∧ n.toInt ≤ 65536) ∧ az_p23 C Q (9, lv, .ref h.2.1 :: st, az_nw h (az_ia 0 n.toInt.toNat (fun _ => 0)) n.toInt.toNat) := az_wp_iff.trans az_go_if
theorem az_s23_9 {a : Nat} {v : Value} : az_p23 C Q (9, lv, v :: .ref a :: st, h) ↔ az_mp (h.1 a) 3 5 3 v (fun c => az_p23 C Q (12, lv, st, az_uh h a c)) := az_wp_iff.trans az_go_pf
theorem az_s23_12 : az_p23 C Q (12, lv, st, h) ↔ az_ma (lv 0) (fun x => az_p23 C Q (13, lv, x :: st, h)) := az_wp_iff.trans az_go_lda
theorem az_s23_13 : az_p23 C Q (13, lv, st, h) ↔ az_p23 C Q (16, lv, .int (Int32.ofInt (400)) :: st, h) := az_wp_iff
theorem az_s23_16 {n : Int32} : az_p23 C Q (16, lv, .int n :: st, h) ↔ (0 ≤ n.toInt ∧ n.toInt ≤ 65536) ∧ az_p23 C Q (18, lv, .ref h.2.1 :: st, az_nw h (az_ia 0 n.toInt.toNat (fun _ => 0)) n.toInt.toNat) := az_wp_iff.trans az_go_if
theorem az_s23_18 {a : Nat} {v : Value} : az_p23 C Q (18, lv, v :: .ref a :: st, h) ↔ az_mp (h.1 a) 3 7 3 v (fun c => az_p23 C Q (21, lv, st, az_uh h a c)) := az_wp_iff.trans az_go_pf
theorem az_s23_21 : az_p23 C Q (21, lv, [], h) ↔ Q none h := az_wp_iff
def az_p24 (C : az_Cl) (Q : Option Value → az_H → Prop) : az_S → Prop := az_wp C (fun _ => none) (some .int) (az_fn az_k24) Q
theorem az_s24_0 : az_p24 C Q (0, lv, st, h) ↔ az_mi (lv 1) (fun x => az_p24 C Q (1, lv, .int x :: st, h)) := az_wp_iff.trans az_go_ldi
theorem az_s24_1 {x : Int32} : az_p24 C Q (1, lv, .int x :: st, h) ↔ (x < 0 → az_p24 C Q (22, lv, st, h)) ∧ (¬ x < 0 → az_p24 C Q (4, lv, st, h)) := az_wp_iff.trans (az_go_if1 az_d_eq)
theorem az_s24_4 : az_p24 C Q (4, lv, st, h) ↔ az_mi (lv 1) (fun x => az_p24 C Q (5, lv, .int x :: st, h)) := az_wp_iff.trans az_go_ldi
theorem az_s24_5 : az_p24 C Q (5, lv, st, h) ↔ az_ma (lv 0) (fun x => az_p24 C Q (6, lv, x :: st, h)) := az_wp_iff.trans az_go_lda
theorem az_s24_6 {a : Nat} : az_p24 C Q (6, lv, .ref a :: st, h) ↔ az_mf (h.1 a) 3 5 (fun v => az_p24 C Q (9, lv, v :: st, h)) := az_wp_iff.trans az_go_gf
theorem az_s24_9 {a : Nat} : az_p24 C Q (9, lv, .ref a :: st, h) ↔ az_mn (h.1 a) (fun x => az_p24 C Q (10, lv, .int x :: st, h)) := az_wp_iff.trans az_go_aln
theorem az_s24_10 {x y : Int32} : az_p24 C Q (10, lv, .int y :: .int x :: st, h) ↔ (y ≤ x → az_p24 C Q (22, lv, st, h)) ∧ (¬ y ≤ x → az_p24 C Q (13, lv, st, h)) := az_wp_iff.trans (az_go_if2 az_d_eq)
theorem az_s24_13 : az_p24 C Q (13, lv, st, h) ↔ az_ma (lv 0) (fun x => az_p24 C Q (14, lv, x :: st, h)) := az_wp_iff.trans az_go_lda
theorem az_s24_14 {a : Nat} : az_p24 C Q (14, lv, .ref a :: st, h) ↔ az_mf (h.1 a) 3 5 (fun v => az_p24 C Q (17, lv, v :: st, h)) := az_wp_iff.trans az_go_gf
theorem az_s24_17 : az_p24 C Q (17, lv, st, h) ↔ az_mi (lv 1) (fun x => az_p24 C Q (18, lv, .int x :: st, h)) := az_wp_iff.trans az_go_ldi
theorem az_s24_18 {a : Nat} {i : Int32} : az_p24 C Q (18, lv, .int i :: .ref a :: st, h) ↔ az_mr (h.1 a) 0 i.toInt (fun x => az_p24 C Q (19, lv, .int x :: st, h)) := az_wp_iff.trans az_go_ial
theorem az_s24_19 : az_p24 C Q (19, lv, st, h) ↔ az_p24 C Q (23, lv, st, h) := az_wp_iff
theorem az_s24_22 : az_p24 C Q (22, lv, st, h) ↔ az_p24 C Q (23, lv, .int (Int32.ofInt (-1)) :: st, h) := az_wp_iff
theorem az_s24_23 {x : Int32} : az_p24 C Q (23, lv, [.int x], h) ↔ Q (some (.int x)) h := az_wp_iff
def az_p25 (C : az_Cl) (Q : Option Value → az_H → Prop) : az_S → Prop := az_wp C (fun _ => none) none (az_fn az_k25) Q
theorem az_s25_0 : az_p25 C Q (0, lv, st, h) ↔ az_mi (lv 1) (fun x => az_p25 C Q (1, lv, .int x :: st, h)) := az_wp_iff.trans az_go_ldi
theorem az_s25_1 {x : Int32} : az_p25 C Q (1, lv, .int x :: st, h) ↔ (x < 0 → az_p25 C Q (38, lv, st, h)) ∧ (¬ x < 0 → az_p25 C Q (4, lv, st, h)) := az_wp_iff.trans (az_go_if1 az_d_eq)
theorem az_s25_4 : az_p25 C Q (4, lv, st, h) ↔ az_mi (lv 1) (fun x => az_p25 C Q (5, lv, .int x :: st, h)) := az_wp_iff.trans az_go_ldi
theorem az_s25_5 : az_p25 C Q (5, lv, st, h) ↔ az_ma (lv 0) (fun x => az_p25 C Q (6, lv, x :: st, h)) := az_wp_iff.trans az_go_lda
theorem az_s25_6 {a : Nat} : az_p25 C Q (6, lv, .ref a :: st, h) ↔ az_mf (h.1 a) 3 5 (fun v => az_p25 C Q (9, lv, v :: st, h)) := az_wp_iff.trans az_go_gf
theorem az_s25_9 {a : Nat} : az_p25 C Q (9, lv, .ref a :: st, h) ↔ az_mn (h.1 a) (fun x => az_p25 C Q (10, lv, .int x :: st, h)) := az_wp_iff.trans az_go_aln
theorem az_s25_10 {x y : Int32} : az_p25 C Q (10, lv, .int y :: .int x :: st, h) ↔ (y ≤ x → az_p25 C Q (38, lv, st, h)) ∧ (¬ y ≤ x → az_p25 C Q (13, lv, st, h)) := az_wp_iff.trans (az_go_if2 az_d_eq)
theorem az_s25_13 : az_p25 C Q (13, lv, st, h) ↔ az_ma (lv 0) (fun x => az_p25 C Q (14, lv, x :: st, h)) := az_wp_iff.trans az_go_lda
theorem az_s25_14 {a : Nat} : az_p25 C Q (14, lv, .ref a :: st, h) ↔ az_mf (h.1 a) 3 5 (fun v => az_p25 C Q (17, lv, v :: st, h)) := az_wp_iff.trans az_go_gf
theorem az_s25_17 : az_p25 C Q (17, lv, st, h) ↔ az_mi (lv 1) (fun x => az_p25 C Q (18, lv, .int x :: st, h)) := az_wp_iff.trans az_go_ldi
theorem az_s25_18 {x : Int32} {y : Nat} : az_p25 C Q (18, lv, .int x :: .ref y :: st, h) ↔ az_p25 C Q (19, lv, .int x :: .ref y :: .int x :: .ref y :: st, h) := az_wp_iff
theorem az_s25_18l {x : Int64} : az_p25 C Q (18, lv, .long x :: st, h) ↔ az_p25 C Q (19, lv, .long x :: .long x :: st, h) := az_wp_iff
theorem az_s25_19 {a : Nat} {i : Int32} : az_p25 C Q (19, lv, .int i :: .ref a :: st, h) ↔ az_mr (h.1 a) 0 i.toInt (fun x => az_p25 C Q (20, lv, .int x :: st, h)) := az_wp_iff.trans az_go_ial
theorem az_s25_20 : az_p25 C Q (20, lv, st, h) ↔ az_ml (lv 2) (fun x => az_p25 C Q (21, lv, .long x :: st, h)) := az_wp_iff.trans az_go_ldl
theorem az_s25_21 {x : Int64} : az_p25 C Q (21, lv, .long x :: st, h) ↔ az_p25 C Q (22, lv, .int x.toInt32 :: st, h) := az_wp_iff
theorem az_s25_22 {x y : Int32} : az_p25 C Q (22, lv, .int y :: .int x :: st, h) ↔ az_p25 C Q (23, lv, .int (x + y) :: st, h) := az_wp_iff
theorem az_s25_23 {a : Nat} {i x : Int32} : az_p25 C Q (23, lv, .int x :: .int i :: .ref a :: st, h) ↔ az_mw' (h.1 a) i.toInt x (fun c => az_p25 C Q (24, lv, st, az_uh h a c)) := az_wp_iff.trans az_go_ias
theorem az_s25_24 : az_p25 C Q (24, lv, st, h) ↔ az_ma (lv 0) (fun x => az_p25 C Q (25, lv, x :: st, h)) := az_wp_iff.trans az_go_lda
theorem az_s25_25 {x : Int32} : az_p25 C Q (25, lv, .int x :: st, h) ↔ az_p25 C Q (26, lv, .int x :: .int x :: st, h) := az_wp_iff
theorem az_s25_25r {x : Nat} : az_p25 C Q (25, lv, .ref x :: st, h) ↔ az_p25 C Q (26, lv, .ref x :: .ref x :: st, h) := az_wp_iff
theorem az_s25_26 {a : Nat} : az_p25 C Q (26, lv, .ref a :: st, h) ↔ az_mf (h.1 a) 3 2 (fun v => az_p25 C Q (29, lv, v :: st, h)) := az_wp_iff.trans az_go_gf
theorem az_s25_29 : az_p25 C Q (29, lv, st, h) ↔ az_ml (lv 2) (fun x => az_p25 C Q (30, lv, .long x :: st, h)) := az_wp_iff.trans az_go_ldl
theorem az_s25_30 : az_p25 C Q (30, lv, st, h) ↔ az_mi (lv 4) (fun x => az_p25 C Q (32, lv, .int x :: st, h)) := az_wp_iff.trans az_go_ldi
theorem az_s25_32 {x : Int32} : az_p25 C Q (32, lv, .int x :: st, h) ↔ az_p25 C Q (33, lv, .long x.toInt64 :: st, h) := az_wp_iff
theorem az_s25_33 {x y : Int64} : az_p25 C Q (33, lv, .long y :: .long x :: st, h) ↔ az_p25 C Q (34, lv, .long (x * y) :: st, h) := az_wp_iff
theorem az_s25_34 {x y : Int64} : az_p25 C Q (34, lv, .long y :: .long x :: st, h) ↔ az_p25 C Q (35, lv, .long (x + y) :: st, h) := az_wp_iff
theorem az_s25_35 {a : Nat} {v : Value} : az_p25 C Q (35, lv, v :: .ref a :: st, h) ↔ az_mp (h.1 a) 3 2 1 v (fun c => az_p25 C Q (38, lv, st, az_uh h a c)) := az_wp_iff.trans az_go_pf
theorem az_s25_38 : az_p25 C Q (38, lv, [], h) ↔ Q none h := az_wp_iff
def az_p26 (C : az_Cl) (Q : Option Value → az_H → Prop) : az_S → Prop := az_wp C (fun _ => none) (some .int) (az_fn az_k26) Q
theorem az_s26_0 : az_p26 C Q (0, lv, st, h) ↔ az_mi (lv 1) (fun x => az_p26 C Q (1, lv, .int x :: st, h)) := az_wp_iff.trans az_go_ldi
theorem az_s26_1 {x : Int32} : az_p26 C Q (1, lv, .int x :: st, h) ↔ (x < 0 → az_p26 C Q (21, lv, st, h)) ∧ (¬ x < 0 → az_p26 C Q (4, lv, st, h)) := az_wp_iff.trans (az_go_if1 az_d_eq)
theorem az_s26_4 : az_p26 C Q (4, lv, st, h) ↔ az_mi (lv 1) (fun x => az_p26 C Q (5, lv, .int x :: st, h)) := az_wp_iff.trans az_go_ldi
theorem az_s26_5 : az_p26 C Q (5, lv, st, h) ↔ az_ma (lv 0) (fun x => az_p26 C Q (6, lv, x :: st, h)) := az_wp_iff.trans az_go_lda
theorem az_s26_6 {a : Nat} : az_p26 C Q (6, lv, .ref a :: st, h) ↔ az_mf (h.1 a) 3 6 (fun v => az_p26 C Q (9, lv, v :: st, h)) := az_wp_iff.trans az_go_gf
theorem az_s26_9 {x y : Int32} : az_p26 C Q (9, lv, .int y :: .int x :: st, h) ↔ (y ≤ x → az_p26 C Q (21, lv, st, h)) ∧ (¬ y ≤ x → az_p26 C Q (12, lv, st, h)) := az_wp_iff.trans (az_go_if2 az_d_eq)
theorem az_s26_12 : az_p26 C Q (12, lv, st, h) ↔ az_mi (lv 2) (fun x => az_p26 C Q (13, lv, .int x :: st, h)) := az_wp_iff.trans az_go_ldi
theorem az_s26_13 {x : Int32} : az_p26 C Q (13, lv, .int x :: st, h) ↔ (x < 0 → az_p26 C Q (21, lv, st, h)) ∧ (¬ x < 0 → az_p26 C Q (16, lv, st, h)) := az_wp_iff.trans (az_go_if1 az_d_eq)
theorem az_s26_16 : az_p26 C Q (16, lv, st, h) ↔ az_mi (lv 2) (fun x => az_p26 C Q (17, lv, .int x :: st, h)) := az_wp_iff.trans az_go_ldi
theorem az_s26_17 : az_p26 C Q (17, lv, st, h) ↔ az_p26 C Q (18, lv, .int (Int32.ofInt (5)) :: st, h) := az_wp_iff
theorem az_s26_18 {x y : Int32} : az_p26 C Q (18, lv, .int y :: .int x :: st, h) ↔ (x < y → az_p26 C Q (23, lv, st, h)) ∧ (¬ x < y → az_p26 C Q (21, lv, st, h)) := az_wp_iff.trans (az_go_if2 az_d_eq)
theorem az_s26_21 : az_p26 C Q (21, lv, st, h) ↔ az_p26 C Q (22, lv, .int (Int32.ofInt (-1)) :: st, h) := az_wp_iff
theorem az_s26_22 {x : Int32} : az_p26 C Q (22, lv, [.int x], h) ↔ Q (some (.int x)) h := az_wp_iff
theorem az_s26_23 : az_p26 C Q (23, lv, st, h) ↔ az_ma (lv 0) (fun x => az_p26 C Q (24, lv, x :: st, h)) := az_wp_iff.trans az_go_lda
theorem az_s26_24 {a : Nat} : az_p26 C Q (24, lv, .ref a :: st, h) ↔ az_mf (h.1 a) 3 7 (fun v => az_p26 C Q (27, lv, v :: st, h)) := az_wp_iff.trans az_go_gf
theorem az_s26_27 : az_p26 C Q (27, lv, st, h) ↔ az_mi (lv 1) (fun x => az_p26 C Q (28, lv, .int x :: st, h)) := az_wp_iff.trans az_go_ldi
theorem az_s26_28 : az_p26 C Q (28, lv, st, h) ↔ az_p26 C Q (29, lv, .int (Int32.ofInt (5)) :: st, h) := az_wp_iff
theorem az_s26_29 {x y : Int32} : az_p26 C Q (29, lv, .int y :: .int x :: st, h) ↔ az_p26 C Q (30, lv, .int (x * y) :: st, h) := az_wp_iff
theorem az_s26_30 : az_p26 C Q (30, lv, st, h) ↔ az_mi (lv 2) (fun x => az_p26 C Q (31, lv, .int x :: st, h)) := az_wp_iff.trans az_go_ldi
theorem az_s26_31 {x y : Int32} : az_p26 C Q (31, lv, .int y :: .int x :: st, h) ↔ az_p26 C Q (32, lv, .int (x + y) :: st, h) := az_wp_iff
theorem az_s26_32 {a : Nat} {i : Int32} : az_p26 C Q (32, lv, .int i :: .ref a :: st, h) ↔ az_mr (h.1 a) 0 i.toInt (fun x => az_p26 C Q (33, lv, .int x :: st, h)) := az_wp_iff.trans az_go_ial
theorem az_s26_33 {x : Int32} : az_p26 C Q (33, lv, [.int x], h) ↔ Q (some (.int x)) h := az_wp_iff
def az_p27 (C : az_Cl) (Q : Option Value → az_H → Prop) : az_S → Prop := az_wp C (fun _ => none) none (az_fn az_k27) Q
theorem az_s27_0 : az_p27 C Q (0, lv, st, h) ↔ az_ma (lv 0) (fun x => az_p27 C Q (1, lv, x :: st, h)) := az_wp_iff.trans az_go_lda
theorem az_s27_1 {a : Nat} : az_p27 C Q (1, lv, .ref a :: st, h) ↔ az_mf (h.1 a) 3 6 (fun v => az_p27 C Q (4, lv, v :: st, h)) := az_wp_iff.trans az_go_gf
theorem az_s27_4 : az_p27 C Q (4, lv, st, h) ↔ az_p27 C Q (6, lv, .int (Int32.ofInt (80)) :: st, h) := az_wp_iff
theorem az_s27_6 {x y : Int32} : az_p27 C Q (6, lv, .int y :: .int x :: st, h) ↔ (x < y → az_p27 C Q (10, lv, st, h)) ∧ (¬ x < y → az_p27 C Q (9, lv, st, h)) := az_wp_iff.trans (az_go_if2 az_d_eq)
theorem az_s27_9 : az_p27 C Q (9, lv, [], h) ↔ Q none h := az_wp_iff
theorem az_s27_10 : az_p27 C Q (10, lv, st, h) ↔ az_ma (lv 0) (fun x => az_p27 C Q (11, lv, x :: st, h)) := az_wp_iff.trans az_go_lda
theorem az_s27_11 {a : Nat} : az_p27 C Q (11, lv, .ref a :: st, h) ↔ az_mf (h.1 a) 3 6 (fun v => az_p27 C Q (14, lv, v :: st, h)) := az_wp_iff.trans az_go_gf
theorem az_s27_14 : az_p27 C Q (14, lv, st, h) ↔ az_p27 C Q (15, lv, .int (Int32.ofInt (5)) :: st, h) := az_wp_iff
theorem az_s27_15 {x y : Int32} : az_p27 C Q (15, lv, .int y :: .int x :: st, h) ↔ az_p27 C Q (16, lv, .int (x * y) :: st, h) := az_wp_iff
theorem az_s27_16 {x : Int32} : az_p27 C Q (16, lv, .int x :: st, h) ↔ az_p27 C Q (18, (az_s1 lv 6 (.int x)), st, h) := az_wp_iff
theorem az_s27_18 : az_p27 C Q (18, lv, st, h) ↔ az_ma (lv 0) (fun x => az_p27 C Q (19, lv, x :: st, h)) := az_wp_iff.trans az_go_lda
theorem az_s27_19 {a : Nat} : az_p27 C Q (19, lv, .ref a :: st, h) ↔ az_mf (h.1 a) 3 7 (fun v => az_p27 C Q (22, lv, v :: st, h)) := az_wp_iff.trans az_go_gf
theorem az_s27_22 : az_p27 C Q (22, lv, st, h) ↔ az_mi (lv 6) (fun x => az_p27 C Q (24, lv, .int x :: st, h)) := az_wp_iff.trans az_go_ldi
theorem az_s27_24 : az_p27 C Q (24, lv, st, h) ↔ az_mi (lv 1) (fun x => az_p27 C Q (25, lv, .int x :: st, h)) := az_wp_iff.trans az_go_ldi
theorem az_s27_25 {a : Nat} {i x : Int32} : az_p27 C Q (25, lv, .int x :: .int i :: .ref a :: st, h) ↔ az_mw' (h.1 a) i.toInt x (fun c => az_p27 C Q (26, lv, st, az_uh h a c)) := az_wp_iff.trans az_go_ias
theorem az_s27_26 : az_p27 C Q (26, lv, st, h) ↔ az_ma (lv 0) (fun x => az_p27 C Q (27, lv, x :: st, h)) := az_wp_iff.trans az_go_lda
theorem az_s27_27 {a : Nat} : az_p27 C Q (27, lv, .ref a :: st, h) ↔ az_mf (h.1 a) 3 7 (fun v => az_p27 C Q (30, lv, v :: st, h)) := az_wp_iff.trans az_go_gf
theorem az_s27_30 : az_p27 C Q (30, lv, st, h) ↔ az_mi (lv 6) (fun x => az_p27 C Q (32, lv, .int x :: st, h)) := az_wp_iff.trans az_go_ldi
theorem az_s27_32 : az_p27 C Q (32, lv, st, h) ↔ az_p27 C Q (33, lv, .int (Int32.ofInt (1)) :: st, h) := az_wp_iff
theorem az_s27_33 {x y : Int32} : az_p27 C Q (33, lv, .int y :: .int x :: st, h) ↔ az_p27 C Q (34, lv, .int (x + y) :: st, h) := az_wp_iff
theorem az_s27_34 : az_p27 C Q (34, lv, st, h) ↔ az_mi (lv 2) (fun x => az_p27 C Q (35, lv, .int x :: st, h)) := az_wp_iff.trans az_go_ldi
theorem az_s27_35 {a : Nat} {i x : Int32} : az_p27 C Q (35, lv, .int x :: .int i :: .ref a :: st, h) ↔ az_mw' (h.1 a) i.toInt x (fun c => az_p27 C Q (36, lv, st, az_uh h a c)) := az_wp_iff.trans az_go_ias
theorem az_s27_36 : az_p27 C Q (36, lv, st, h) ↔ az_ma (lv 0) (fun x => az_p27 C Q (37, lv, x :: st, h)) := az_wp_iff.trans az_go_lda
theorem az_s27_37 {a : Nat} : az_p27 C Q (37, lv, .ref a :: st, h) ↔ az_mf (h.1 a) 3 7 (fun v => az_p27 C Q (40, lv, v :: st, h)) := az_wp_iff.trans az_go_gf
theorem az_s27_40 : az_p27 C Q (40, lv, st, h) ↔ az_mi (lv 6) (fun x => az_p27 C Q (42, lv, .int x :: st, h)) := az_wp_iff.trans az_go_ldi
theorem az_s27_42 : az_p27 C Q (42, lv, st, h) ↔ az_p27 C Q (43, lv, .int (Int32.ofInt (2)) :: st, h) := az_wp_iff
theorem az_s27_43 {x y : Int32} : az_p27 C Q (43, lv, .int y :: .int x :: st, h) ↔ az_p27 C Q (44, lv, .int (x + y) :: st, h) := az_wp_iff
theorem az_s27_44 : az_p27 C Q (44, lv, st, h) ↔ az_mi (lv 3) (fun x => az_p27 C Q (45, lv, .int x :: st, h)) := az_wp_iff.trans az_go_ldi
theorem az_s27_45 {a : Nat} {i x : Int32} : az_p27 C Q (45, lv, .int x :: .int i :: .ref a :: st, h) ↔ az_mw' (h.1 a) i.toInt x (fun c => az_p27 C Q (46, lv, st, az_uh h a c)) := az_wp_iff.trans az_go_ias
theorem az_s27_46 : az_p27 C Q (46, lv, st, h) ↔ az_ma (lv 0) (fun x => az_p27 C Q (47, lv, x :: st, h)) := az_wp_iff.trans az_go_lda
theorem az_s27_47 {a : Nat} : az_p27 C Q (47, lv, .ref a :: st, h) ↔ az_mf (h.1 a) 3 7 (fun v => az_p27 C Q (50, lv, v :: st, h)) := az_wp_iff.trans az_go_gf
theorem az_s27_50 : az_p27 C Q (50, lv, st, h) ↔ az_mi (lv 6) (fun x => az_p27 C Q (52, lv, .int x :: st, h)) := az_wp_iff.trans az_go_ldi
theorem az_s27_52 : az_p27 C Q (52, lv, st, h) ↔ az_p27 C Q (53, lv, .int (Int32.ofInt (3)) :: st, h) := az_wp_iff
theorem az_s27_53 {x y : Int32} : az_p27 C Q (53, lv, .int y :: .int x :: st, h) ↔ az_p27 C Q (54, lv, .int (x + y) :: st, h) := az_wp_iff
theorem az_s27_54 : az_p27 C Q (54, lv, st, h) ↔ az_mi (lv 4) (fun x => az_p27 C Q (56, lv, .int x :: st, h)) := az_wp_iff.trans az_go_ldi
theorem az_s27_56 {a : Nat} {i x : Int32} : az_p27 C Q (56, lv, .int x :: .int i :: .ref a :: st, h) ↔ az_mw' (h.1 a) i.toInt x (fun c => az_p27 C Q (57, lv, st, az_uh h a c)) := az_wp_iff.trans az_go_ias
theorem az_s27_57 : az_p27 C Q (57, lv, st, h) ↔ az_ma (lv 0) (fun x => az_p27 C Q (58, lv, x :: st, h)) := az_wp_iff.trans az_go_lda
theorem az_s27_58 {a : Nat} : az_p27 C Q (58, lv, .ref a :: st, h) ↔ az_mf (h.1 a) 3 7 (fun v => az_p27 C Q (61, lv, v :: st, h)) := az_wp_iff.trans az_go_gf
theorem az_s27_61 : az_p27 C Q (61, lv, st, h) ↔ az_mi (lv 6) (fun x => az_p27 C Q (63, lv, .int x :: st, h)) := az_wp_iff.trans az_go_ldi
theorem az_s27_63 : az_p27 C Q (63, lv, st, h) ↔ az_p27 C Q (64, lv, .int (Int32.ofInt (4)) :: st, h) := az_wp_iff
theorem az_s27_64 {x y : Int32} : az_p27 C Q (64, lv, .int y :: .int x :: st, h) ↔ az_p27 C Q (65, lv, .int (x + y) :: st, h) := az_wp_iff
theorem az_s27_65 : az_p27 C Q (65, lv, st, h) ↔ az_mi (lv 5) (fun x => az_p27 C Q (67, lv, .int x :: st, h)) := az_wp_iff.trans az_go_ldi
theorem az_s27_67 {a : Nat} {i x : Int32} : az_p27 C Q (67, lv, .int x :: .int i :: .ref a :: st, h) ↔ az_mw' (h.1 a) i.toInt x (fun c => az_p27 C Q (68, lv, st, az_uh h a c)) := az_wp_iff.trans az_go_ias
theorem az_s27_68 : az_p27 C Q (68, lv, st, h) ↔ az_ma (lv 0) (fun x => az_p27 C Q (69, lv, x :: st, h)) := az_wp_iff.trans az_go_lda
theorem az_s27_69 {x : Int32} : az_p27 C Q (69, lv, .int x :: st, h) ↔ az_p27 C Q (70, lv, .int x :: .int x :: st, h) := az_wp_iff
theorem az_s27_69r {x : Nat} : az_p27 C Q (69, lv, .ref x :: st, h) ↔ az_p27 C Q (70, lv, .ref x :: .ref x :: st, h) := az_wp_iff
theorem az_s27_70 {a : Nat} : az_p27 C Q (70, lv, .ref a :: st, h) ↔ az_mf (h.1 a) 3 6 (fun v => az_p27 C Q (73, lv, v :: st, h)) := az_wp_iff.trans az_go_gf
theorem az_s27_73 : az_p27 C Q (73, lv, st, h) ↔ az_p27 C Q (74, lv, .int (Int32.ofInt (1)) :: st, h) := az_wp_iff
theorem az_s27_74 {x y : Int32} : az_p27 C Q (74, lv, .int y :: .int x :: st, h) ↔ az_p27 C Q (75, lv, .int (x + y) :: st, h) := az_wp_iff
theorem az_s27_75 {a : Nat} {v : Value} : az_p27 C Q (75, lv, v :: .ref a :: st, h) ↔ az_mp (h.1 a) 3 6 0 v (fun c => az_p27 C Q (78, lv, st, az_uh h a c)) := az_wp_iff.trans az_go_pf
theorem az_s27_78 : az_p27 C Q (78, lv, st, h) ↔ az_ma (lv 0) (fun x => az_p27 C Q (79, lv, x :: st, h)) := az_wp_iff.trans az_go_lda
theorem az_s27_79 {x : Int32} : az_p27 C Q (79, lv, .int x :: st, h) ↔ az_p27 C Q (80, lv, .int x :: .int x :: st, h) := az_wp_iff
theorem az_s27_79r {x : Nat} : az_p27 C Q (79, lv, .ref x :: st, h) ↔ az_p27 C Q (80, lv, .ref x :: .ref x :: st, h) := az_wp_iff
theorem az_s27_80 {a : Nat} : az_p27 C Q (80, lv, .ref a :: st, h) ↔ az_mf (h.1 a) 3 4 (fun v => az_p27 C Q (83, lv, v :: st, h)) := az_wp_iff.trans az_go_gf
theorem az_s27_83 : az_p27 C Q (83, lv, st, h) ↔ az_mi (lv 5) (fun x => az_p27 C Q (85, lv, .int x :: st, h)) := az_wp_iff.trans az_go_ldi
theorem az_s27_85 {x : Int32} : az_p27 C Q (85, lv, .int x :: st, h) ↔ az_p27 C Q (86, lv, .long x.toInt64 :: st, h) := az_wp_iff
theorem az_s27_86 {x y : Int64} : az_p27 C Q (86, lv, .long y :: .long x :: st, h) ↔ az_p27 C Q (87, lv, .long (x + y) :: st, h) := az_wp_iff
theorem az_s27_87 {a : Nat} {v : Value} : az_p27 C Q (87, lv, v :: .ref a :: st, h) ↔ az_mp (h.1 a) 3 4 1 v (fun c => az_p27 C Q (90, lv, st, az_uh h a c)) := az_wp_iff.trans az_go_pf
theorem az_s27_90 : az_p27 C Q (90, lv, [], h) ↔ Q none h := az_wp_iff
def az_p28 (C : az_Cl) (Q : Option Value → az_H → Prop) : az_S → Prop := az_wp C (fun _ => none) none (az_fn az_k28) Q
theorem az_s28_0 : az_p28 C Q (0, lv, st, h) ↔ az_ma (lv 0) (fun x => az_p28 C Q (1, lv, x :: st, h)) := az_wp_iff.trans az_go_lda
theorem az_s28_1 {a : Nat} : az_p28 C Q (1, lv, .ref a :: st, h) ↔ az_cat st ≤ 8 ∧ az_p28 C Q (4, lv, st, h) := az_wp_iff.trans az_go_if
theorem az_s28_4 : az_p28 C Q (4, lv, st, h) ↔ az_ma (lv 0) (fun x => az_p28 C Q (5, lv, x :: st, h)) := az_wp_iff.trans az_go_lda
theorem az_s28_5 : az_p28 C Q (5, lv, st, h) ↔ az_p28 C Q (6, lv, .int (Int32.ofInt (-1)) :: st, h) := az_wp_iff
theorem az_s28_6 {a : Nat} {v : Value} : az_p28 C Q (6, lv, v :: .ref a :: st, h) ↔ az_mp (h.1 a) 4 0 0 v (fun c => az_p28 C Q (9, lv, st, az_uh h a c)) := az_wp_iff.trans az_go_pf
theorem az_s28_9 : az_p28 C Q (9, lv, st, h) ↔ az_ma (lv 0) (fun x => az_p28 C Q (10, lv, x :: st, h)) := az_wp_iff.trans az_go_lda
theorem az_s28_10 : az_p28 C Q (10, lv, st, h) ↔ az_p28 C Q (11, lv, .int (Int32.ofInt (-1)) :: st, h) := az_wp_iff
theorem az_s28_11 {a : Nat} {v : Value} : az_p28 C Q (11, lv, v :: .ref a :: st, h) ↔ az_mp (h.1 a) 4 1 0 v (fun c => az_p28 C Q (14, lv, st, az_uh h a c)) := az_wp_iff.trans az_go_pf
theorem az_s28_14 : az_p28 C Q (14, lv, st, h) ↔ az_ma (lv 0) (fun x => az_p28 C Q (15, lv, x :: st, h)) := az_wp_iff.trans az_go_lda
theorem az_s28_15 : az_p28 C Q (15, lv, st, h) ↔ az_p28 C Q (16, lv, .int (Int32.ofInt (3)) :: st, h) := az_wp_iff
theorem az_s28_16 {n : Int32} : az_p28 C Q (16, lv, .int n :: st, h) ↔ (0 ≤ n.toInt ∧ n.toInt ≤ 65536) ∧ az_p28 C Q (18, lv, .ref h.2.1 :: st, az_nw h (az_ia 0 n.toInt.toNat (fun _ => 0)) n.toInt.toNat) := az_wp_iff.trans az_go_if
theorem az_s28_18 {a : Nat} {v : Value} : az_p28 C Q (18, lv, v :: .ref a :: st, h) ↔ az_mp (h.1 a) 4 3 3 v (fun c => az_p28 C Q (21, lv, st, az_uh h a c)) := az_wp_iff.trans az_go_pf
theorem az_s28_21 : az_p28 C Q (21, lv, [], h) ↔ Q none h := az_wp_iff
def az_p29 (C : az_Cl) (Q : Option Value → az_H → Prop) : az_S → Prop := az_wp C (fun _ => none) (some .boolean) (az_fn az_k29) Q
theorem az_s29_0 : az_p29 C Q (0, lv, st, h) ↔ az_ma (lv 0) (fun x => az_p29 C Q (1, lv, x :: st, h)) := az_wp_iff.trans az_go_lda
theorem az_s29_1 {a : Nat} : az_p29 C Q (1, lv, .ref a :: st, h) ↔ az_mf (h.1 a) 4 0 (fun v => az_p29 C Q (4, lv, v :: st, h)) := az_wp_iff.trans az_go_gf
theorem az_s29_4 : az_p29 C Q (4, lv, st, h) ↔ az_p29 C Q (5, lv, .int (Int32.ofInt (-1)) :: st, h) := az_wp_iff
theorem az_s29_5 {x y : Int32} : az_p29 C Q (5, lv, .int y :: .int x :: st, h) ↔ (¬ x = y → az_p29 C Q (12, lv, st, h)) ∧ (¬ ¬ x = y → az_p29 C Q (8, lv, st, h)) := az_wp_iff.trans (az_go_if2 az_d_eq)
theorem az_s29_8 : az_p29 C Q (8, lv, st, h) ↔ az_p29 C Q (9, lv, .int (Int32.ofInt (1)) :: st, h) := az_wp_iff
theorem az_s29_9 : az_p29 C Q (9, lv, st, h) ↔ az_p29 C Q (13, lv, st, h) := az_wp_iff
theorem az_s29_12 : az_p29 C Q (12, lv, st, h) ↔ az_p29 C Q (13, lv, .int (Int32.ofInt (0)) :: st, h) := az_wp_iff
theorem az_s29_13 {x : Int32} : az_p29 C Q (13, lv, [.int x], h) ↔ (x = 0 ∨ x = 1) ∧ Q (some (.int x)) h := az_wp_iff.trans az_go_if
def az_p30 (C : az_Cl) (Q : Option Value → az_H → Prop) : az_S → Prop := az_wp C (fun _ => none) none (az_fn az_k30) Q
theorem az_s30_0 : az_p30 C Q (0, lv, st, h) ↔ az_ma (lv 0) (fun x => az_p30 C Q (1, lv, x :: st, h)) := az_wp_iff.trans az_go_lda
theorem az_s30_1 {a : Nat} : az_p30 C Q (1, lv, .ref a :: st, h) ↔ az_mf (h.1 a) 4 0 (fun v => az_p30 C Q (4, lv, v :: st, h)) := az_wp_iff.trans az_go_gf
theorem az_s30_4 : az_p30 C Q (4, lv, st, h) ↔ az_p30 C Q (5, lv, .int (Int32.ofInt (-1)) :: st, h) := az_wp_iff
theorem az_s30_5 {x y : Int32} : az_p30 C Q (5, lv, .int y :: .int x :: st, h) ↔ (¬ x = y → az_p30 C Q (16, lv, st, h)) ∧ (¬ ¬ x = y → az_p30 C Q (8, lv, st, h)) := az_wp_iff.trans (az_go_if2 az_d_eq)
theorem az_s30_8 : az_p30 C Q (8, lv, st, h) ↔ az_ma (lv 0) (fun x => az_p30 C Q (9, lv, x :: st, h)) := az_wp_iff.trans az_go_lda
theorem az_s30_9 : az_p30 C Q (9, lv, st, h) ↔ az_mi (lv 1) (fun x => az_p30 C Q (10, lv, .int x :: st, h)) := az_wp_iff.trans az_go_ldi
theorem az_s30_10 {a : Nat} {v : Value} : az_p30 C Q (10, lv, v :: .ref a :: st, h) ↔ az_mp (h.1 a) 4 0 0 v (fun c => az_p30 C Q (13, lv, st, az_uh h a c)) := az_wp_iff.trans az_go_pf
theorem az_s30_13 : az_p30 C Q (13, lv, st, h) ↔ az_p30 C Q (21, lv, st, h) := az_wp_iff
theorem az_s30_16 : az_p30 C Q (16, lv, st, h) ↔ az_ma (lv 0) (fun x => az_p30 C Q (17, lv, x :: st, h)) := az_wp_iff.trans az_go_lda
theorem az_s30_17 : az_p30 C Q (17, lv, st, h) ↔ az_mi (lv 1) (fun x => az_p30 C Q (18, lv, .int x :: st, h)) := az_wp_iff.trans az_go_ldi
theorem az_s30_18 {a : Nat} {v : Value} : az_p30 C Q (18, lv, v :: .ref a :: st, h) ↔ az_mp (h.1 a) 4 1 0 v (fun c => az_p30 C Q (21, lv, st, az_uh h a c)) := az_wp_iff.trans az_go_pf
theorem az_s30_21 : az_p30 C Q (21, lv, [], h) ↔ Q none h := az_wp_iff
def az_p31 (C : az_Cl) (Q : Option Value → az_H → Prop) : az_S → Prop := az_wp C (fun _ => none) none (az_fn az_k31) Q
theorem az_s31_0 : az_p31 C Q (0, lv, st, h) ↔ az_ma (lv 0) (fun x => az_p31 C Q (1, lv, x :: st, h)) := az_wp_iff.trans az_go_lda
theorem az_s31_1 : az_p31 C Q (1, lv, st, h) ↔ az_p31 C Q (2, lv, .int (Int32.ofInt (-1)) :: st, h) := az_wp_iff
theorem az_s31_2 {a : Nat} {v : Value} : az_p31 C Q (2, lv, v :: .ref a :: st, h) ↔ az_mp (h.1 a) 4 0 0 v (fun c => az_p31 C Q (5, lv, st, az_uh h a c)) := az_wp_iff.trans az_go_pf
theorem az_s31_5 : az_p31 C Q (5, lv, st, h) ↔ az_ma (lv 0) (fun x => az_p31 C Q (6, lv, x :: st, h)) := az_wp_iff.trans az_go_lda
theorem az_s31_6 : az_p31 C Q (6, lv, st, h) ↔ az_p31 C Q (7, lv, .int (Int32.ofInt (-1)) :: st, h) := az_wp_iff
theorem az_s31_7 {a : Nat} {v : Value} : az_p31 C Q (7, lv, v :: .ref a :: st, h) ↔ az_mp (h.1 a) 4 1 0 v (fun c => az_p31 C Q (10, lv, st, az_uh h a c)) := az_wp_iff.trans az_go_pf
theorem az_s31_10 : az_p31 C Q (10, lv, st, h) ↔ az_ma (lv 0) (fun x => az_p31 C Q (11, lv, x :: st, h)) := az_wp_iff.trans az_go_lda
theorem az_s31_11 : az_p31 C Q (11, lv, st, h) ↔ az_p31 C Q (12, lv, .int (Int32.ofInt (0)) :: st, h) := az_wp_iff
theorem az_s31_12 {a : Nat} {v : Value} : az_p31 C Q (12, lv, v :: .ref a :: st, h) ↔ az_mp (h.1 a) 4 2 0 v (fun c => az_p31 C Q (15, lv, st, az_uh h a c)) := az_wp_iff.trans az_go_pf
theorem az_s31_15 : az_p31 C Q (15, lv, st, h) ↔ az_ma (lv 0) (fun x => az_p31 C Q (16, lv, x :: st, h)) := az_wp_iff.trans az_go_lda
theorem az_s31_16 {a : Nat} : az_p31 C Q (16, lv, .ref a :: st, h) ↔ az_mf (h.1 a) 4 3 (fun v => az_p31 C Q (19, lv, v :: st, h)) := az_wp_iff.trans az_go_gf
theorem az_s31_19 : az_p31 C Q (19, lv, st, h) ↔ az_p31 C Q (20, lv, .int (Int32.ofInt (0)) :: st, h) := az_wp_iff
theorem az_s31_20 {v1 v2 : Value} : az_p31 C Q (20, lv, v2 :: v1 :: st, h) ↔ az_cat st ≤ 8 ∧ az_mc C 190 [v1, v2] h (fun v h' => az_p31 C Q (23, lv, v ++ st, h')) := az_wp_iff.trans az_go_call
theorem az_s31_23 : az_p31 C Q (23, lv, [], h) ↔ Q none h := az_wp_iff
def az_p32 (C : az_Cl) (Q : Option Value → az_H → Prop) : az_S → Prop := az_wp C (fun _ => none) (some .int) (az_fn az_k32) Q
theorem az_s32_0 : az_p32 C Q (0, lv, st, h) ↔ az_mi (lv 1) (fun x => az_p32 C Q (1, lv, .int x :: st, h)) := az_wp_iff.trans az_go_ldi
theorem az_s32_1 {x : Int32} : az_p32 C Q (1, lv, .int x :: st, h) ↔ (x < 0 → az_p32 C Q (22, lv, st, h)) ∧ (¬ x < 0 → az_p32 C Q (4, lv, st, h)) := az_wp_iff.trans (az_go_if1 az_d_eq)
theorem az_s32_4 : az_p32 C Q (4, lv, st, h) ↔ az_mi (lv 1) (fun x => az_p32 C Q (5, lv, .int x :: st, h)) := az_wp_iff.trans az_go_ldi
theorem az_s32_5 : az_p32 C Q (5, lv, st, h) ↔ az_ma (lv 0) (fun x => az_p32 C Q (6, lv, x :: st, h)) := az_wp_iff.trans az_go_lda
theorem az_s32_6 {a : Nat} : az_p32 C Q (6, lv, .ref a :: st, h) ↔ az_mf (h.1 a) 4 3 (fun v => az_p32 C Q (9, lv, v :: st, h)) := az_wp_iff.trans az_go_gf
theorem az_s32_9 {a : Nat} : az_p32 C Q (9, lv, .ref a :: st, h) ↔ az_mn (h.1 a) (fun x => az_p32 C Q (10, lv, .int x :: st, h)) := az_wp_iff.trans az_go_aln
theorem az_s32_10 {x y : Int32} : az_p32 C Q (10, lv, .int y :: .int x :: st, h) ↔ (y ≤ x → az_p32 C Q (22, lv, st, h)) ∧ (¬ y ≤ x → az_p32 C Q (13, lv, st, h)) := az_wp_iff.trans (az_go_if2 az_d_eq)
theorem az_s32_13 : az_p32 C Q (13, lv, st, h) ↔ az_ma (lv 0) (fun x => az_p32 C Q (14, lv, x :: st, h)) := az_wp_iff.trans az_go_lda
theorem az_s32_14 {a : Nat} : az_p32 C Q (14, lv, .ref a :: st, h) ↔ az_mf (h.1 a) 4 3 (fun v => az_p32 C Q (17, lv, v :: st, h)) := az_wp_iff.trans az_go_gf
theorem az_s32_17 : az_p32 C Q (17, lv, st, h) ↔ az_mi (lv 1) (fun x => az_p32 C Q (18, lv, .int x :: st, h)) := az_wp_iff.trans az_go_ldi
theorem az_s32_18 {a : Nat} {i : Int32} : az_p32 C Q (18, lv, .int i :: .ref a :: st, h) ↔ az_mr (h.1 a) 0 i.toInt (fun x => az_p32 C Q (19, lv, .int x :: st, h)) := az_wp_iff.trans az_go_ial
theorem az_s32_19 : az_p32 C Q (19, lv, st, h) ↔ az_p32 C Q (23, lv, st, h) := az_wp_iff
theorem az_s32_22 : az_p32 C Q (22, lv, st, h) ↔ az_p32 C Q (23, lv, .int (Int32.ofInt (0)) :: st, h) := az_wp_iff
theorem az_s32_23 {x : Int32} : az_p32 C Q (23, lv, [.int x], h) ↔ Q (some (.int x)) h := az_wp_iff
def az_p33 (C : az_Cl) (Q : Option Value → az_H → Prop) : az_S → Prop := az_wp C (fun _ => none) none (az_fn az_k33) Q
theorem az_s33_0 : az_p33 C Q (0, lv, st, h) ↔ az_mi (lv 1) (fun x => az_p33 C Q (1, lv, .int x :: st, h)) := az_wp_iff.trans az_go_ldi
theorem az_s33_1 {x : Int32} : az_p33 C Q (1, lv, .int x :: st, h) ↔ (x < 0 → az_p33 C Q (20, lv, st, h)) ∧ (¬ x < 0 → az_p33 C Q (4, lv, st, h)) := az_wp_iff.trans (az_go_if1 az_d_eq)
theorem az_s33_4 : az_p33 C Q (4, lv, st, h) ↔ az_mi (lv 1) (fun x => az_p33 C Q (5, lv, .int x :: st, h)) := az_wp_iff.trans az_go_ldi
theorem az_s33_5 : az_p33 C Q (5, lv, st, h) ↔ az_ma (lv 0) (fun x => az_p33 C Q (6, lv, x :: st, h)) := az_wp_iff.trans az_go_lda
theorem az_s33_6 {a : Nat} : az_p33 C Q (6, lv, .ref a :: st, h) ↔ az_mf (h.1 a) 4 3 (fun v => az_p33 C Q (9, lv, v :: st, h)) := az_wp_iff.trans az_go_gf
theorem az_s33_9 {a : Nat} : az_p33 C Q (9, lv, .ref a :: st, h) ↔ az_mn (h.1 a) (fun x => az_p33 C Q (10, lv, .int x :: st, h)) := az_wp_iff.trans az_go_aln
theorem az_s33_10 {x y : Int32} : az_p33 C Q (10, lv, .int y :: .int x :: st, h) ↔ (y ≤ x → az_p33 C Q (20, lv, st, h)) ∧ (¬ y ≤ x → az_p33 C Q (13, lv, st, h)) := az_wp_iff.trans (az_go_if2 az_d_eq)
theorem az_s33_13 : az_p33 C Q (13, lv, st, h) ↔ az_ma (lv 0) (fun x => az_p33 C Q (14, lv, x :: st, h)) := az_wp_iff.trans az_go_lda
theorem az_s33_14 {a : Nat} : az_p33 C Q (14, lv, .ref a :: st, h) ↔ az_mf (h.1 a) 4 3 (fun v => az_p33 C Q (17, lv, v :: st, h)) := az_wp_iff.trans az_go_gf
theorem az_s33_17 : az_p33 C Q (17, lv, st, h) ↔ az_mi (lv 1) (fun x => az_p33 C Q (18, lv, .int x :: st, h)) := az_wp_iff.trans az_go_ldi
theorem az_s33_18 : az_p33 C Q (18, lv, st, h) ↔ az_mi (lv 2) (fun x => az_p33 C Q (19, lv, .int x :: st, h)) := az_wp_iff.trans az_go_ldi
theorem az_s33_19 {a : Nat} {i x : Int32} : az_p33 C Q (19, lv, .int x :: .int i :: .ref a :: st, h) ↔ az_mw' (h.1 a) i.toInt x (fun c => az_p33 C Q (20, lv, st, az_uh h a c)) := az_wp_iff.trans az_go_ias
theorem az_s33_20 : az_p33 C Q (20, lv, [], h) ↔ Q none h := az_wp_iff
def az_p34 (C : az_Cl) (Q : Option Value → az_H → Prop) : az_S → Prop := az_wp C (fun _ => none) (some .boolean) (az_fn az_k34) Q
theorem az_s34_0 : az_p34 C Q (0, lv, st, h) ↔ az_ma (lv 0) (fun x => az_p34 C Q (1, lv, x :: st, h)) := az_wp_iff.trans az_go_lda
theorem az_s34_1 {a : Nat} : az_p34 C Q (1, lv, .ref a :: st, h) ↔ az_mf (h.1 a) 4 0 (fun v => az_p34 C Q (4, lv, v :: st, h)) := az_wp_iff.trans az_go_gf
theorem az_s34_4 : az_p34 C Q (4, lv, st, h) ↔ az_p34 C Q (5, lv, .int (Int32.ofInt (-1)) :: st, h) := az_wp_iff
theorem az_s34_5 {x y : Int32} : az_p34 C Q (5, lv, .int y :: .int x :: st, h) ↔ (¬ x = y → az_p34 C Q (10, lv, st, h)) ∧ (¬ ¬ x = y → az_p34 C Q (8, lv, st, h)) := az_wp_iff.trans (az_go_if2 az_d_eq)
theorem az_s34_8 : az_p34 C Q (8, lv, st, h) ↔ az_p34 C Q (9, lv, .int (Int32.ofInt (0)) :: st, h) := az_wp_iff
theorem az_s34_9 {x : Int32} : az_p34 C Q (9, lv, [.int x], h) ↔ (x = 0 ∨ x = 1) ∧ Q (some (.int x)) h := az_wp_iff.trans az_go_if
theorem az_s34_10 : az_p34 C Q (10, lv, st, h) ↔ az_mi (lv 1) (fun x => az_p34 C Q (11, lv, .int x :: st, h)) := az_wp_iff.trans az_go_ldi
theorem az_s34_11 : az_p34 C Q (11, lv, st, h) ↔ az_ma (lv 0) (fun x => az_p34 C Q (12, lv, x :: st, h)) := az_wp_iff.trans az_go_lda
theorem az_s34_12 {a : Nat} : az_p34 C Q (12, lv, .ref a :: st, h) ↔ az_mf (h.1 a) 4 2 (fun v => az_p34 C Q (15, lv, v :: st, h)) := az_wp_iff.trans az_go_gf
theorem az_s34_15 {x y : Int32} : az_p34 C Q (15, lv, .int y :: .int x :: st, h) ↔ (x = y → az_p34 C Q (40, lv, st, h)) ∧ (¬ x = y → az_p34 C Q (18, lv, st, h)) := az_wp_iff.trans (az_go_if2 az_d_eq)
theorem az_s34_18 : az_p34 C Q (18, lv, st, h) ↔ az_mi (lv 1) (fun x => az_p34 C Q (19, lv, .int x :: st, h)) := az_wp_iff.trans az_go_ldi
theorem az_s34_19 {x : Int32} : az_p34 C Q (19, lv, .int x :: st, h) ↔ (x < 0 → az_p34 C Q (44, lv, st, h)) ∧ (¬ x < 0 → az_p34 C Q (22, lv, st, h)) := az_wp_iff.trans (az_go_if1 az_d_eq)
theorem az_s34_22 : az_p34 C Q (22, lv, st, h) ↔ az_mi (lv 1) (fun x => az_p34 C Q (23, lv, .int x :: st, h)) := az_wp_iff.trans az_go_ldi
theorem az_s34_23 : az_p34 C Q (23, lv, st, h) ↔ az_ma (lv 0) (fun x => az_p34 C Q (24, lv, x :: st, h)) := az_wp_iff.trans az_go_lda
theorem az_s34_24 {a : Nat} : az_p34 C Q (24, lv, .ref a :: st, h) ↔ az_mf (h.1 a) 4 3 (fun v => az_p34 C Q (27, lv, v :: st, h)) := az_wp_iff.trans az_go_gf
theorem az_s34_27 {a : Nat} : az_p34 C Q (27, lv, .ref a :: st, h) ↔ az_mn (h.1 a) (fun x => az_p34 C Q (28, lv, .int x :: st, h)) := az_wp_iff.trans az_go_aln
theorem az_s34_28 {x y : Int32} : az_p34 C Q (28, lv, .int y :: .int x :: st, h) ↔ (y ≤ x → az_p34 C Q (44, lv, st, h)) ∧ (¬ y ≤ x → az_p34 C Q (31, lv, st, h)) := az_wp_iff.trans (az_go_if2 az_d_eq)
theorem az_s34_31 : az_p34 C Q (31, lv, st, h) ↔ az_ma (lv 0) (fun x => az_p34 C Q (32, lv, x :: st, h)) := az_wp_iff.trans az_go_lda
theorem az_s34_32 {a : Nat} : az_p34 C Q (32, lv, .ref a :: st, h) ↔ az_mf (h.1 a) 4 3 (fun v => az_p34 C Q (35, lv, v :: st, h)) := az_wp_iff.trans az_go_gf
theorem az_s34_35 : az_p34 C Q (35, lv, st, h) ↔ az_mi (lv 1) (fun x => az_p34 C Q (36, lv, .int x :: st, h)) := az_wp_iff.trans az_go_ldi
theorem az_s34_36 {a : Nat} {i : Int32} : az_p34 C Q (36, lv, .int i :: .ref a :: st, h) ↔ az_mr (h.1 a) 0 i.toInt (fun x => az_p34 C Q (37, lv, .int x :: st, h)) := az_wp_iff.trans az_go_ial
theorem az_s34_37 {x : Int32} : az_p34 C Q (37, lv, .int x :: st, h) ↔ (x ≤ 0 → az_p34 C Q (44, lv, st, h)) ∧ (¬ x ≤ 0 → az_p34 C Q (40, lv, st, h)) := az_wp_iff.trans (az_go_if1 az_d_eq)
theorem az_s34_40 : az_p34 C Q (40, lv, st, h) ↔ az_p34 C Q (41, lv, .int (Int32.ofInt (1)) :: st, h) := az_wp_iff
theorem az_s34_41 : az_p34 C Q (41, lv, st, h) ↔ az_p34 C Q (45, lv, st, h) := az_wp_iff
theorem az_s34_44 : az_p34 C Q (44, lv, st, h) ↔ az_p34 C Q (45, lv, .int (Int32.ofInt (0)) :: st, h) := az_wp_iff
theorem az_s34_45 {x : Int32} : az_p34 C Q (45, lv, [.int x], h) ↔ (x = 0 ∨ x = 1) ∧ Q (some (.int x)) h := az_wp_iff.trans az_go_if
def az_p35 (C : az_Cl) (Q : Option Value → az_H → Prop) : az_S → Prop := az_wp C (fun _ => none) (some .int) (az_fn az_k35) Q
theorem az_s35_0 : az_p35 C Q (0, lv, st, h) ↔ az_p35 C Q (1, lv, .int (Int32.ofInt (0)) :: st, h) := az_wp_iff
theorem az_s35_1 {x : Int32} : az_p35 C Q (1, lv, .int x :: st, h) ↔ az_p35 C Q (2, (az_s1 lv 1 (.int x)), st, h) := az_wp_iff
theorem az_s35_2 : az_p35 C Q (2, lv, st, h) ↔ az_p35 C Q (3, lv, .int (Int32.ofInt (0)) :: st, h) := az_wp_iff
theorem az_s35_3 {x : Int32} : az_p35 C Q (3, lv, .int x :: st, h) ↔ az_p35 C Q (4, (az_s1 lv 2 (.int x)), st, h) := az_wp_iff
theorem az_s35_4 : az_p35 C Q (4, lv, st, h) ↔ az_mi (lv 2) (fun x => az_p35 C Q (5, lv, .int x :: st, h)) := az_wp_iff.trans az_go_ldi
theorem az_s35_5 : az_p35 C Q (5, lv, st, h) ↔ az_p35 C Q (6, lv, .int (Int32.ofInt (3)) :: st, h) := az_wp_iff
theorem az_s35_6 {x y : Int32} : az_p35 C Q (6, lv, .int y :: .int x :: st, h) ↔ (y ≤ x → az_p35 C Q (31, lv, st, h)) ∧ (¬ y ≤ x → az_p35 C Q (9, lv, st, h)) := az_wp_iff.trans (az_go_if2 az_d_eq)
theorem az_s35_9 : az_p35 C Q (9, lv, st, h) ↔ az_mi (lv 1) (fun x => az_p35 C Q (10, lv, .int x :: st, h)) := az_wp_iff.trans az_go_ldi
theorem az_s35_10 : az_p35 C Q (10, lv, st, h) ↔ az_ma (lv 0) (fun x => az_p35 C Q (11, lv, x :: st, h)) := az_wp_iff.trans az_go_lda
theorem az_s35_11 : az_p35 C Q (11, lv, st, h) ↔ az_mi (lv 2) (fun x => az_p35 C Q (12, lv, .int x :: st, h)) := az_wp_iff.trans az_go_ldi
theorem az_s35_12 {a : Nat} {v1 : Value} : az_p35 C Q (12, lv, v1 :: .ref a :: st, h) ↔ az_isob (h.1 a) 4 = true ∧ az_cat st ≤ 8 ∧ az_mc C 32 [.ref a, v1] h (fun v h' => az_p35 C Q (15, lv, v ++ st, h')) := az_wp_iff.trans (az_go_if.trans (and_congr Iff.rfl az_go_call))
theorem az_s35_15 {x : Int32} : az_p35 C Q (15, lv, .int x :: st, h) ↔ (x ≤ 0 → az_p35 C Q (22, lv, st, h)) ∧ (¬ x ≤ 0 → az_p35 C Q (18, lv, st, h)) := az_wp_iff.trans (az_go_if1 az_d_eq)
theorem az_s35_18 : az_p35 C Q (18, lv, st, h) ↔ az_p35 C Q (19, lv, .int (Int32.ofInt (1)) :: st, h) := az_wp_iff
theorem az_s35_19 : az_p35 C Q (19, lv, st, h) ↔ az_p35 C Q (23, lv, st, h) := az_wp_iff
theorem az_s35_22 : az_p35 C Q (22, lv, st, h) ↔ az_p35 C Q (23, lv, .int (Int32.ofInt (0)) :: st, h) := az_wp_iff
theorem az_s35_23 {x y : Int32} : az_p35 C Q (23, lv, .int y :: .int x :: st, h) ↔ az_p35 C Q (24, lv, .int (x + y) :: st, h) := az_wp_iff
theorem az_s35_24 {x : Int32} : az_p35 C Q (24, lv, .int x :: st, h) ↔ az_p35 C Q (25, (az_s1 lv 1 (.int x)), st, h) := az_wp_iff
theorem az_s35_25 : az_p35 C Q (25, lv, st, h) ↔ az_mi (lv 2) (fun x => az_p35 C Q (28, (az_s1 lv 2 (.int (x + Int32.ofInt (1)))), st, h)) := az_wp_iff.trans az_go_inc
theorem az_s35_28 : az_p35 C Q (28, lv, st, h) ↔ az_p35 C Q (4, lv, st, h) := az_wp_iff
theorem az_s35_31 : az_p35 C Q (31, lv, st, h) ↔ az_mi (lv 1) (fun x => az_p35 C Q (32, lv, .int x :: st, h)) := az_wp_iff.trans az_go_ldi
theorem az_s35_32 {x : Int32} : az_p35 C Q (32, lv, [.int x], h) ↔ Q (some (.int x)) h := az_wp_iff
def az_p36 (C : az_Cl) (Q : Option Value → az_H → Prop) : az_S → Prop := az_wp C (fun _ => none) (some .long) (az_fn az_k36) Q
theorem az_s36_0 : az_p36 C Q (0, lv, st, h) ↔ az_ma (lv 1) (fun x => az_p36 C Q (1, lv, x :: st, h)) := az_wp_iff.trans az_go_lda
theorem az_s36_1 : az_p36 C Q (1, lv, st, h) ↔ az_ma (lv 0) (fun x => az_p36 C Q (2, lv, x :: st, h)) := az_wp_iff.trans az_go_lda
theorem az_s36_2 {a : Nat} : az_p36 C Q (2, lv, .ref a :: st, h) ↔ az_mf (h.1 a) 4 0 (fun v => az_p36 C Q (5, lv, v :: st, h)) := az_wp_iff.trans az_go_gf
theorem az_s36_5 {a : Nat} {v1 : Value} : az_p36 C Q (5, lv, v1 :: .ref a :: st, h) ↔ az_isob (h.1 a) 5 = true ∧ az_cat st ≤ 8 ∧ az_mc C 40 [.ref a, v1] h (fun v h' => az_p36 C Q (8, lv, v ++ st, h')) := az_wp_iff.trans (az_go_if.trans (and_congr Iff.rfl az_go_call))
theorem az_s36_8 {x : Int32} : az_p36 C Q (8, lv, .int x :: st, h) ↔ az_p36 C Q (9, lv, .long x.toInt64 :: st, h) := az_wp_iff
theorem az_s36_9 : az_p36 C Q (9, lv, st, h) ↔ az_ma (lv 1) (fun x => az_p36 C Q (10, lv, x :: st, h)) := az_wp_iff.trans az_go_lda
theorem az_s36_10 : az_p36 C Q (10, lv, st, h) ↔ az_ma (lv 0) (fun x => az_p36 C Q (11, lv, x :: st, h)) := az_wp_iff.trans az_go_lda
theorem az_s36_11 {a : Nat} : az_p36 C Q (11, lv, .ref a :: st, h) ↔ az_mf (h.1 a) 4 1 (fun v => az_p36 C Q (14, lv, v :: st, h)) := az_wp_iff.trans az_go_gf
theorem az_s36_14 {a : Nat} {v1 : Value} : az_p36 C Q (14, lv, v1 :: .ref a :: st, h) ↔ az_isob (h.1 a) 5 = true ∧ az_cat st ≤ 8 ∧ az_mc C 40 [.ref a, v1] h (fun v h' => az_p36 C Q (17, lv, v ++ st, h')) := az_wp_iff.trans (az_go_if.trans (and_congr Iff.rfl az_go_call))
theorem az_s36_17 {x : Int32} : az_p36 C Q (17, lv, .int x :: st, h) ↔ az_p36 C Q (18, lv, .long x.toInt64 :: st, h) := az_wp_iff
theorem az_s36_18 {x y : Int64} : az_p36 C Q (18, lv, .long y :: .long x :: st, h) ↔ az_p36 C Q (19, lv, .long (x + y) :: st, h) := az_wp_iff
theorem az_s36_19 {x : Int64} : az_p36 C Q (19, lv, .long x :: st, h) ↔ az_p36 C Q (20, (az_s2 lv 2 (.long x)), st, h) := az_wp_iff
theorem az_s36_20 : az_p36 C Q (20, lv, st, h) ↔ az_p36 C Q (21, lv, .int (Int32.ofInt (0)) :: st, h) := az_wp_iff
theorem az_s36_21 {x : Int32} : az_p36 C Q (21, lv, .int x :: st, h) ↔ az_p36 C Q (23, (az_s1 lv 4 (.int x)), st, h) := az_wp_iff
theorem az_s36_23 : az_p36 C Q (23, lv, st, h) ↔ az_mi (lv 4) (fun x => az_p36 C Q (25, lv, .int x :: st, h)) := az_wp_iff.trans az_go_ldi
theorem az_s36_25 : az_p36 C Q (25, lv, st, h) ↔ az_p36 C Q (26, lv, .int (Int32.ofInt (3)) :: st, h) := az_wp_iff
theorem az_s36_26 {x y : Int32} : az_p36 C Q (26, lv, .int y :: .int x :: st, h) ↔ (y ≤ x → az_p36 C Q (45, lv, st, h)) ∧ (¬ y ≤ x → az_p36 C Q (29, lv, st, h)) := az_wp_iff.trans (az_go_if2 az_d_eq)
theorem az_s36_29 : az_p36 C Q (29, lv, st, h) ↔ az_ml (lv 2) (fun x => az_p36 C Q (30, lv, .long x :: st, h)) := az_wp_iff.trans az_go_ldl
theorem az_s36_30 : az_p36 C Q (30, lv, st, h) ↔ az_ma (lv 0) (fun x => az_p36 C Q (31, lv, x :: st, h)) := az_wp_iff.trans az_go_lda
theorem az_s36_31 : az_p36 C Q (31, lv, st, h) ↔ az_mi (lv 4) (fun x => az_p36 C Q (33, lv, .int x :: st, h)) := az_wp_iff.trans az_go_ldi
theorem az_s36_33 {a : Nat} {v1 : Value} : az_p36 C Q (33, lv, v1 :: .ref a :: st, h) ↔ az_isob (h.1 a) 4 = true ∧ az_cat st ≤ 8 ∧ az_mc C 32 [.ref a, v1] h (fun v h' => az_p36 C Q (36, lv, v ++ st, h')) := az_wp_iff.trans (az_go_if.trans (and_congr Iff.rfl az_go_call))
theorem az_s36_36 {x : Int32} : az_p36 C Q (36, lv, .int x :: st, h) ↔ az_p36 C Q (37, lv, .long x.toInt64 :: st, h) := az_wp_iff
theorem az_s36_37 {x y : Int64} : az_p36 C Q (37, lv, .long y :: .long x :: st, h) ↔ az_p36 C Q (38, lv, .long (x + y) :: st, h) := az_wp_iff
theorem az_s36_38 {x : Int64} : az_p36 C Q (38, lv, .long x :: st, h) ↔ az_p36 C Q (39, (az_s2 lv 2 (.long x)), st, h) := az_wp_iff
theorem az_s36_39 : az_p36 C Q (39, lv, st, h) ↔ az_mi (lv 4) (fun x => az_p36 C Q (42, (az_s1 lv 4 (.int (x + Int32.ofInt (1)))), st, h)) := az_wp_iff.trans az_go_inc
theorem az_s36_42 : az_p36 C Q (42, lv, st, h) ↔ az_p36 C Q (23, lv, st, h) := az_wp_iff
theorem az_s36_45 : az_p36 C Q (45, lv, st, h) ↔ az_ml (lv 2) (fun x => az_p36 C Q (46, lv, .long x :: st, h)) := az_wp_iff.trans az_go_ldl
theorem az_s36_46 {x : Int64} : az_p36 C Q (46, lv, [.long x], h) ↔ Q (some (.long x)) h := az_wp_iff
def az_p37 (C : az_Cl) (Q : Option Value → az_H → Prop) : az_S → Prop := az_wp C (fun _ => none) none (az_fn az_k37) Q
theorem az_s37_0 : az_p37 C Q (0, lv, st, h) ↔ az_ma (lv 0) (fun x => az_p37 C Q (1, lv, x :: st, h)) := az_wp_iff.trans az_go_lda
theorem az_s37_1 {a : Nat} : az_p37 C Q (1, lv, .ref a :: st, h) ↔ az_cat st ≤ 8 ∧ az_p37 C Q (4, lv, st, h) := az_wp_iff.trans az_go_if
theorem az_s37_4 : az_p37 C Q (4, lv, st, h) ↔ az_ma (lv 0) (fun x => az_p37 C Q (5, lv, x :: st, h)) := az_wp_iff.trans az_go_lda
theorem az_s37_5 : az_p37 C Q (5, lv, st, h) ↔ az_p37 C Q (7, lv, .int (Int32.ofInt (64)) :: st, h) := az_wp_iff
theorem az_s37_7 {n : Int32} : az_p37 C Q (7, lv, .int n :: st, h) ↔ (0 ≤ n.toInt ∧ n.toInt ≤ 65536) ∧ az_p37 C Q (9, lv, .ref h.2.1 :: st, az_nw h (az_ia 0 n.toInt.toNat (fun _ => 0)) n.toInt.toNat) := az_wp_iff.trans az_go_if
theorem az_s37_9 {a : Nat} {v : Value} : az_p37 C Q (9, lv, v :: .ref a :: st, h) ↔ az_mp (h.1 a) 5 1 3 v (fun c => az_p37 C Q (12, lv, st, az_uh h a c)) := az_wp_iff.trans az_go_pf
theorem az_s37_12 : az_p37 C Q (12, lv, st, h) ↔ az_ma (lv 0) (fun x => az_p37 C Q (13, lv, x :: st, h)) := az_wp_iff.trans az_go_lda
theorem az_s37_13 : az_p37 C Q (13, lv, st, h) ↔ az_p37 C Q (15, lv, .int (Int32.ofInt (64)) :: st, h) := az_wp_iff
theorem az_s37_15 {n : Int32} : az_p37 C Q (15, lv, .int n :: st, h) ↔ (0 ≤ n.toInt ∧ n.toInt ≤ 65536) ∧ az_p37 C Q (17, lv, .ref h.2.1 :: st, az_nw h (az_ia 0 n.toInt.toNat (fun _ => 0)) n.toInt.toNat) := az_wp_iff.trans az_go_if
theorem az_s37_17 {a : Nat} {v : Value} : az_p37 C Q (17, lv, v :: .ref a :: st, h) ↔ az_mp (h.1 a) 5 2 3 v (fun c => az_p37 C Q (20, lv, st, az_uh h a c)) := az_wp_iff.trans az_go_pf
theorem az_s37_20 : az_p37 C Q (20, lv, st, h) ↔ az_ma (lv 0) (fun x => az_p37 C Q (21, lv, x :: st, h)) := az_wp_iff.trans az_go_lda
theorem az_s37_21 : az_p37 C Q (21, lv, st, h) ↔ az_p37 C Q (23, lv, .int (Int32.ofInt (64)) :: st, h) := az_wp_iff
theorem az_s37_23 {n : Int32} : az_p37 C Q (23, lv, .int n :: st, h) ↔ (0 ≤ n.toInt ∧ n.toInt ≤ 65536) ∧ az_p37 C Q (25, lv, .ref h.2.1 :: st, az_nw h (az_ia 0 n.toInt.toNat (fun _ => 0)) n.toInt.toNat) := az_wp_iff.trans az_go_if
theorem az_s37_25 {a : Nat} {v : Value} : az_p37 C Q (25, lv, v :: .ref a :: st, h) ↔ az_mp (h.1 a) 5 3 3 v (fun c => az_p37 C Q (28, lv, st, az_uh h a c)) := az_wp_iff.trans az_go_pf
theorem az_s37_28 : az_p37 C Q (28, lv, st, h) ↔ az_ma (lv 0) (fun x => az_p37 C Q (29, lv, x :: st, h)) := az_wp_iff.trans az_go_lda
theorem az_s37_29 : az_p37 C Q (29, lv, st, h) ↔ az_p37 C Q (32, lv, .int (Int32.ofInt (256)) :: st, h) := az_wp_iff
theorem az_s37_32 {n : Int32} : az_p37 C Q (32, lv, .int n :: st, h) ↔ (0 ≤ n.toInt ∧ n.toInt ≤ 65536) ∧ az_p37 C Q (34, lv, .ref h.2.1 :: st, az_nw h (az_ia 0 n.toInt.toNat (fun _ => 0)) n.toInt.toNat) := az_wp_iff.trans az_go_if
theorem az_s37_34 {a : Nat} {v : Value} : az_p37 C Q (34, lv, v :: .ref a :: st, h) ↔ az_mp (h.1 a) 5 4 3 v (fun c => az_p37 C Q (37, lv, st, az_uh h a c)) := az_wp_iff.trans az_go_pf
theorem az_s37_37 : az_p37 C Q (37, lv, [], h) ↔ Q none h := az_wp_iff
def az_p38 (C : az_Cl) (Q : Option Value → az_H → Prop) : az_S → Prop := az_wp C (fun _ => none) (some .boolean) (az_fn az_k38) Q
theorem az_s38_0 : az_p38 C Q (0, lv, st, h) ↔ az_mi (lv 1) (fun x => az_p38 C Q (1, lv, .int x :: st, h)) := az_wp_iff.trans az_go_ldi
theorem az_s38_1 {x : Int32} : az_p38 C Q (1, lv, .int x :: st, h) ↔ (x < 0 → az_p38 C Q (16, lv, st, h)) ∧ (¬ x < 0 → az_p38 C Q (4, lv, st, h)) := az_wp_iff.trans (az_go_if1 az_d_eq)
theorem az_s38_4 : az_p38 C Q (4, lv, st, h) ↔ az_mi (lv 1) (fun x => az_p38 C Q (5, lv, .int x :: st, h)) := az_wp_iff.trans az_go_ldi
theorem az_s38_5 : az_p38 C Q (5, lv, st, h) ↔ az_ma (lv 0) (fun x => az_p38 C Q (6, lv, x :: st, h)) := az_wp_iff.trans az_go_lda
theorem az_s38_6 {a : Nat} : az_p38 C Q (6, lv, .ref a :: st, h) ↔ az_mf (h.1 a) 5 0 (fun v => az_p38 C Q (9, lv, v :: st, h)) := az_wp_iff.trans az_go_gf
theorem az_s38_9 {x y : Int32} : az_p38 C Q (9, lv, .int y :: .int x :: st, h) ↔ (y ≤ x → az_p38 C Q (16, lv, st, h)) ∧ (¬ y ≤ x → az_p38 C Q (12, lv, st, h)) := az_wp_iff.trans (az_go_if2 az_d_eq)
theorem az_s38_12 : az_p38 C Q (12, lv, st, h) ↔ az_p38 C Q (13, lv, .int (Int32.ofInt (1)) :: st, h) := az_wp_iff
theorem az_s38_13 : az_p38 C Q (13, lv, st, h) ↔ az_p38 C Q (17, lv, st, h) := az_wp_iff
theorem az_s38_16 : az_p38 C Q (16, lv, st, h) ↔ az_p38 C Q (17, lv, .int (Int32.ofInt (0)) :: st, h) := az_wp_iff
theorem az_s38_17 {x : Int32} : az_p38 C Q (17, lv, [.int x], h) ↔ (x = 0 ∨ x = 1) ∧ Q (some (.int x)) h := az_wp_iff.trans az_go_if
def az_p39 (C : az_Cl) (Q : Option Value → az_H → Prop) : az_S → Prop := az_wp C (fun _ => none) (some .boolean) (az_fn az_k39) Q
theorem az_s39_0 : az_p39 C Q (0, lv, st, h) ↔ az_ma (lv 0) (fun x => az_p39 C Q (1, lv, x :: st, h)) := az_wp_iff.trans az_go_lda
theorem az_s39_1 {a : Nat} : az_p39 C Q (1, lv, .ref a :: st, h) ↔ az_mf (h.1 a) 5 0 (fun v => az_p39 C Q (4, lv, v :: st, h)) := az_wp_iff.trans az_go_gf
theorem az_s39_4 : az_p39 C Q (4, lv, st, h) ↔ az_mi (lv 1) (fun x => az_p39 C Q (5, lv, .int x :: st, h)) := az_wp_iff.trans az_go_ldi
theorem az_s39_5 {x y : Int32} : az_p39 C Q (5, lv, .int y :: .int x :: st, h) ↔ az_p39 C Q (6, lv, .int (x + y) :: st, h) := az_wp_iff
theorem az_s39_6 : az_p39 C Q (6, lv, st, h) ↔ az_p39 C Q (9, lv, .int (Int32.ofInt (1500)) :: st, h) := az_wp_iff
theorem az_s39_9 {x y : Int32} : az_p39 C Q (9, lv, .int y :: .int x :: st, h) ↔ (y < x → az_p39 C Q (16, lv, st, h)) ∧ (¬ y < x → az_p39 C Q (12, lv, st, h)) := az_wp_iff.trans (az_go_if2 az_d_eq)
theorem az_s39_12 : az_p39 C Q (12, lv, st, h) ↔ az_p39 C Q (13, lv, .int (Int32.ofInt (1)) :: st, h) := az_wp_iff
theorem az_s39_13 : az_p39 C Q (13, lv, st, h) ↔ az_p39 C Q (17, lv, st, h) := az_wp_iff
theorem az_s39_16 : az_p39 C Q (16, lv, st, h) ↔ az_p39 C Q (17, lv, .int (Int32.ofInt (0)) :: st, h) := az_wp_iff
theorem az_s39_17 {x : Int32} : az_p39 C Q (17, lv, [.int x], h) ↔ (x = 0 ∨ x = 1) ∧ Q (some (.int x)) h := az_wp_iff.trans az_go_if
def az_p40 (C : az_Cl) (Q : Option Value → az_H → Prop) : az_S → Prop := az_wp C (fun _ => none) (some .int) (az_fn az_k40) Q
theorem az_s40_0 : az_p40 C Q (0, lv, st, h) ↔ az_ma (lv 0) (fun x => az_p40 C Q (1, lv, x :: st, h)) := az_wp_iff.trans az_go_lda
theorem az_s40_1 : az_p40 C Q (1, lv, st, h) ↔ az_mi (lv 1) (fun x => az_p40 C Q (2, lv, .int x :: st, h)) := az_wp_iff.trans az_go_ldi
theorem az_s40_2 {a : Nat} {v1 : Value} : az_p40 C Q (2, lv, v1 :: .ref a :: st, h) ↔ az_isob (h.1 a) 5 = true ∧ az_cat st ≤ 8 ∧ az_mc C 38 [.ref a, v1] h (fun v h' => az_p40 C Q (5, lv, v ++ st, h')) := az_wp_iff.trans (az_go_if.trans (and_congr Iff.rfl az_go_call))
theorem az_s40_5 {x : Int32} : az_p40 C Q (5, lv, .int x :: st, h) ↔ (x = 0 → az_p40 C Q (17, lv, st, h)) ∧ (¬ x = 0 → az_p40 C Q (8, lv, st, h)) := az_wp_iff.trans (az_go_if1 az_d_eq)
theorem az_s40_8 : az_p40 C Q (8, lv, st, h) ↔ az_ma (lv 0) (fun x => az_p40 C Q (9, lv, x :: st, h)) := az_wp_iff.trans az_go_lda
theorem az_s40_9 {a : Nat} : az_p40 C Q (9, lv, .ref a :: st, h) ↔ az_mf (h.1 a) 5 1 (fun v => az_p40 C Q (12, lv, v :: st, h)) := az_wp_iff.trans az_go_gf
theorem az_s40_12 : az_p40 C Q (12, lv, st, h) ↔ az_mi (lv 1) (fun x => az_p40 C Q (13, lv, .int x :: st, h)) := az_wp_iff.trans az_go_ldi
theorem az_s40_13 {a : Nat} {i : Int32} : az_p40 C Q (13, lv, .int i :: .ref a :: st, h) ↔ az_mr (h.1 a) 0 i.toInt (fun x => az_p40 C Q (14, lv, .int x :: st, h)) := az_wp_iff.trans az_go_ial
theorem az_s40_14 : az_p40 C Q (14, lv, st, h) ↔ az_p40 C Q (18, lv, st, h) := az_wp_iff
theorem az_s40_17 : az_p40 C Q (17, lv, st, h) ↔ az_p40 C Q (18, lv, .int (Int32.ofInt (0)) :: st, h) := az_wp_iff
theorem az_s40_18 {x : Int32} : az_p40 C Q (18, lv, [.int x], h) ↔ Q (some (.int x)) h := az_wp_iff
def az_p41 (C : az_Cl) (Q : Option Value → az_H → Prop) : az_S → Prop := az_wp C (fun _ => none) (some .int) (az_fn az_k41) Q
theorem az_s41_0 : az_p41 C Q (0, lv, st, h) ↔ az_ma (lv 0) (fun x => az_p41 C Q (1, lv, x :: st, h)) := az_wp_iff.trans az_go_lda
theorem az_s41_1 : az_p41 C Q (1, lv, st, h) ↔ az_mi (lv 1) (fun x => az_p41 C Q (2, lv, .int x :: st, h)) := az_wp_iff.trans az_go_ldi
theorem az_s41_2 {a : Nat} {v1 : Value} : az_p41 C Q (2, lv, v1 :: .ref a :: st, h) ↔ az_isob (h.1 a) 5 = true ∧ az_cat st ≤ 8 ∧ az_mc C 38 [.ref a, v1] h (fun v h' => az_p41 C Q (5, lv, v ++ st, h')) := az_wp_iff.trans (az_go_if.trans (and_congr Iff.rfl az_go_call))
theorem az_s41_5 {x : Int32} : az_p41 C Q (5, lv, .int x :: st, h) ↔ (x = 0 → az_p41 C Q (17, lv, st, h)) ∧ (¬ x = 0 → az_p41 C Q (8, lv, st, h)) := az_wp_iff.trans (az_go_if1 az_d_eq)
theorem az_s41_8 : az_p41 C Q (8, lv, st, h) ↔ az_ma (lv 0) (fun x => az_p41 C Q (9, lv, x :: st, h)) := az_wp_iff.trans az_go_lda
theorem az_s41_9 {a : Nat} : az_p41 C Q (9, lv, .ref a :: st, h) ↔ az_mf (h.1 a) 5 2 (fun v => az_p41 C Q (12, lv, v :: st, h)) := az_wp_iff.trans az_go_gf
theorem az_s41_12 : az_p41 C Q (12, lv, st, h) ↔ az_mi (lv 1) (fun x => az_p41 C Q (13, lv, .int x :: st, h)) := az_wp_iff.trans az_go_ldi
theorem az_s41_13 {a : Nat} {i : Int32} : az_p41 C Q (13, lv, .int i :: .ref a :: st, h) ↔ az_mr (h.1 a) 0 i.toInt (fun x => az_p41 C Q (14, lv, .int x :: st, h)) := az_wp_iff.trans az_go_ial
theorem az_s41_14 : az_p41 C Q (14, lv, st, h) ↔ az_p41 C Q (18, lv, st, h) := az_wp_iff
theorem az_s41_17 : az_p41 C Q (17, lv, st, h) ↔ az_p41 C Q (18, lv, .int (Int32.ofInt (0)) :: st, h) := az_wp_iff
theorem az_s41_18 {x : Int32} : az_p41 C Q (18, lv, [.int x], h) ↔ Q (some (.int x)) h := az_wp_iff
end AzStC0
