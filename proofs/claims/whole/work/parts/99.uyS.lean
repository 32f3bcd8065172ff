-- deps:
section AzStL
variable {C : az_Cl} {X : Nat → Option az_C} {Q : Option Value → az_H → Prop} {K : az_S → Prop} {pc : Nat} {lv : az_L} {st : List Value} {h : az_H}
theorem az_go_ialX {t a : Nat} {i : Int32} : az_go C Q K (az_ial t pc lv (.int i :: .ref a :: st) h X) ↔ az_mr ((X a).getD (h.1 a)) t i.toInt (fun x => K (pc, lv, .int x :: st, h)) := by
  unfold az_ial az_mr; try dsimp only
  generalize (X a).getD (h.1 a) = c
  rcases c with ⟨t, n, g⟩ | ⟨n, g⟩ | ⟨t, n, g⟩ | ⟨ci, fs⟩ <;> first | exact az_go_if | exact Iff.rfl
theorem az_go_alnX {a : Nat} : az_go C Q K (az_aln pc lv (.ref a :: st) h X) ↔ az_mn ((X a).getD (h.1 a)) (fun x => K (pc, lv, .int x :: st, h)) := by
  unfold az_aln az_mn; try dsimp only
  generalize az_len ((X a).getD (h.1 a)) = o
  cases o <;> exact Iff.rfl
def az_pL (C : az_Cl) (X : Nat → Option az_C) (Q : Option Value → az_H → Prop) : az_S → Prop := az_wp C X (some .boolean) (az_fn az_kL) Q
set_option maxRecDepth 20000 in
theorem az_sL_0 : az_pL C X Q (0, lv, st, h) ↔ az_pL C X Q (3, lv, .ref h.2.1 :: st, az_nw h (az_ob 10 (az_z 10)) 8) := az_wp_iff
set_option maxRecDepth 20000 in
theorem az_sL_3 {x : Int32} : az_pL C X Q (3, lv, .int x :: st, h) ↔ az_pL C X Q (4, lv, .int x :: .int x :: st, h) := az_wp_iff
set_option maxRecDepth 20000 in
theorem az_sL_3r {x : Nat} : az_pL C X Q (3, lv, .ref x :: st, h) ↔ az_pL C X Q (4, lv, .ref x :: .ref x :: st, h) := az_wp_iff
set_option maxRecDepth 20000 in
theorem az_sL_4 {a : Nat}  : az_pL C X Q (4, lv, .ref a :: st, h) ↔ az_cat st ≤ 8 ∧ az_mc C 109 [.ref a] h (fun v h' => az_pL C X Q (7, lv, v ++ st, h')) := az_wp_iff.trans az_go_call
set_option maxRecDepth 20000 in
theorem az_sL_7 {x : Nat} : az_pL C X Q (7, lv, .ref x :: st, h) ↔ az_pL C X Q (8, (az_s1 lv 1 (.ref x)), st, h) := az_wp_iff
set_option maxRecDepth 20000 in
theorem az_sL_7n : az_pL C X Q (7, lv, .null :: st, h) ↔ az_pL C X Q (8, (az_s1 lv 1 .null), st, h) := az_wp_iff
set_option maxRecDepth 20000 in
theorem az_sL_8 : az_pL C X Q (8, lv, st, h) ↔ az_pL C X Q (11, lv, .ref h.2.1 :: st, az_nw h (az_ob 11 (az_z 11)) 55) := az_wp_iff
set_option maxRecDepth 20000 in
theorem az_sL_11 {x : Int32} : az_pL C X Q (11, lv, .int x :: st, h) ↔ az_pL C X Q (12, lv, .int x :: .int x :: st, h) := az_wp_iff
set_option maxRecDepth 20000 in
theorem az_sL_11r {x : Nat} : az_pL C X Q (11, lv, .ref x :: st, h) ↔ az_pL C X Q (12, lv, .ref x :: .ref x :: st, h) := az_wp_iff
set_option maxRecDepth 20000 in
theorem az_sL_12 {a : Nat}  : az_pL C X Q (12, lv, .ref a :: st, h) ↔ az_cat st ≤ 8 ∧ az_mc C 133 [.ref a] h (fun v h' => az_pL C X Q (15, lv, v ++ st, h')) := az_wp_iff.trans az_go_call
set_option maxRecDepth 20000 in
theorem az_sL_15 {x : Nat} : az_pL C X Q (15, lv, .ref x :: st, h) ↔ az_pL C X Q (16, (az_s1 lv 2 (.ref x)), st, h) := az_wp_iff
set_option maxRecDepth 20000 in
theorem az_sL_15n : az_pL C X Q (15, lv, .null :: st, h) ↔ az_pL C X Q (16, (az_s1 lv 2 .null), st, h) := az_wp_iff
set_option maxRecDepth 20000 in
theorem az_sL_16 : az_pL C X Q (16, lv, st, h) ↔ az_pL C X Q (17, lv, .int (Int32.ofInt (0)) :: st, h) := az_wp_iff
set_option maxRecDepth 20000 in
theorem az_sL_17 {x : Int32} : az_pL C X Q (17, lv, .int x :: st, h) ↔ az_pL C X Q (18, (az_s1 lv 3 (.int x)), st, h) := az_wp_iff
set_option maxRecDepth 20000 in
theorem az_sL_18 : az_pL C X Q (18, lv, st, h) ↔ az_mi (lv 3) (fun x => az_pL C X Q (19, lv, .int x :: st, h)) := az_wp_iff.trans az_go_ldi
set_option maxRecDepth 20000 in
theorem az_sL_19 : az_pL C X Q (19, lv, st, h) ↔ az_ma (lv 0) (fun x => az_pL C X Q (20, lv, x :: st, h)) := az_wp_iff.trans az_go_lda
set_option maxRecDepth 20000 in
theorem az_sL_20 {a : Nat} : az_pL C X Q (20, lv, .ref a :: st, h) ↔ az_mn ((X a).getD (h.1 a)) (fun x => az_pL C X Q (21, lv, .int x :: st, h)) := az_wp_iff.trans az_go_alnX
set_option maxRecDepth 20000 in
theorem az_sL_21 : az_pL C X Q (21, lv, st, h) ↔ az_pL C X Q (23, lv, .int (Int32.ofInt (6)) :: st, h) := az_wp_iff
set_option maxRecDepth 20000 in
theorem az_sL_23 {x y : Int32} : az_pL C X Q (23, lv, .int y :: .int x :: st, h) ↔ az_pL C X Q (24, lv, .int (x - y) :: st, h) := az_wp_iff
set_option maxRecDepth 20000 in
theorem az_sL_24 {x y : Int32} : az_pL C X Q (24, lv, .int y :: .int x :: st, h) ↔ (y < x → az_pL C X Q (842, lv, st, h)) ∧ (¬ y < x → az_pL C X Q (27, lv, st, h)) := az_wp_iff.trans (az_go_if2 az_d_eq)
set_option maxRecDepth 20000 in
theorem az_sL_27 : az_pL C X Q (27, lv, st, h) ↔ az_ma (lv 0) (fun x => az_pL C X Q (28, lv, x :: st, h)) := az_wp_iff.trans az_go_lda
set_option maxRecDepth 20000 in
theorem az_sL_28 : az_pL C X Q (28, lv, st, h) ↔ az_mi (lv 3) (fun x => az_pL C X Q (29, lv, .int x :: st, h)) := az_wp_iff.trans az_go_ldi
set_option maxRecDepth 20000 in
theorem az_sL_29 {a : Nat} {i : Int32} : az_pL C X Q (29, lv, .int i :: .ref a :: st, h) ↔ az_mr ((X a).getD (h.1 a)) 0 i.toInt (fun x => az_pL C X Q (30, lv, .int x :: st, h)) := az_wp_iff.trans az_go_ialX
set_option maxRecDepth 20000 in
theorem az_sL_30 : az_pL C X Q (30, lv, st, h) ↔ az_pL C X Q (32, lv, .int (Int32.ofInt (31)) :: st, h) := az_wp_iff
set_option maxRecDepth 20000 in
theorem az_sL_32 {x y : Int32} : az_pL C X Q (32, lv, .int y :: .int x :: st, h) ↔ az_pL C X Q (33, lv, .int (x &&& y) :: st, h) := az_wp_iff
set_option maxRecDepth 20000 in
theorem az_sL_33 {x : Int32} : az_pL C X Q (33, lv, .int x :: st, h) ↔ (x.toInt = 0 → az_pL C X Q (132, lv, st, h)) ∧ (¬ x.toInt = 0 → (x.toInt = 1 → az_pL C X Q (165, lv, st, h)) ∧ (¬ x.toInt = 1 → (x.toInt = 2 → az_pL C X Q (218, lv, st, h)) ∧ (¬ x.toInt = 2 → (x.toInt = 3 → az_pL C X Q (251, lv, st, h)) ∧ (¬ x.toInt = 3 → (x.toInt = 4 → az_pL C X Q (294, lv, st, h)) ∧ (¬ x.toInt = 4 → (x.toInt = 5 → az_pL C X Q (307, lv, st, h)) ∧ (¬ x.toInt = 5 → (x.toInt = 6 → az_pL C X Q (370, lv, st, h)) ∧ (¬ x.toInt = 6 → (x.toInt = 7 → az_pL C X Q (413, lv, st, h)) ∧ (¬ x.toInt = 7 → (x.toInt = 8 → az_pL C X Q (466, lv, st, h)) ∧ (¬ x.toInt = 8 → (x.toInt = 9 → az_pL C X Q (489, lv, st, h)) ∧ (¬ x.toInt = 9 → (x.toInt = 10 → az_pL C X Q (512, lv, st, h)) ∧ (¬ x.toInt = 10 → (x.toInt = 11 → az_pL C X Q (555, lv, st, h)) ∧ (¬ x.toInt = 11 → (x.toInt = 12 → az_pL C X Q (588, lv, st, h)) ∧ (¬ x.toInt = 12 → (x.toInt = 13 → az_pL C X Q (631, lv, st, h)) ∧ (¬ x.toInt = 13 → (x.toInt = 14 → az_pL C X Q (664, lv, st, h)) ∧ (¬ x.toInt = 14 → (x.toInt = 15 → az_pL C X Q (697, lv, st, h)) ∧ (¬ x.toInt = 15 → (x.toInt = 16 → az_pL C X Q (720, lv, st, h)) ∧ (¬ x.toInt = 16 → (x.toInt = 17 → az_pL C X Q (753, lv, st, h)) ∧ (¬ x.toInt = 17 → (x.toInt = 18 → az_pL C X Q (777, lv, st, h)) ∧ (¬ x.toInt = 18 → (x.toInt = 19 → az_pL C X Q (790, lv, st, h)) ∧ (¬ x.toInt = 19 → (x.toInt = 20 → az_pL C X Q (813, lv, st, h)) ∧ (¬ x.toInt = 20 → az_pL C X Q (836, lv, st, h)))))))))))))))))))))) := az_wp_iff.trans (az_sel_iff (K := fun t => az_pL C X Q (t, lv, st, h)) _ _ _)
set_option maxRecDepth 20000 in
theorem az_sL_132 : az_pL C X Q (132, lv, st, h) ↔ az_ma (lv 1) (fun x => az_pL C X Q (133, lv, x :: st, h)) := az_wp_iff.trans az_go_lda
set_option maxRecDepth 20000 in
theorem az_sL_133 : az_pL C X Q (133, lv, st, h) ↔ az_ma (lv 0) (fun x => az_pL C X Q (134, lv, x :: st, h)) := az_wp_iff.trans az_go_lda
set_option maxRecDepth 20000 in
theorem az_sL_134 : az_pL C X Q (134, lv, st, h) ↔ az_mi (lv 3) (fun x => az_pL C X Q (135, lv, .int x :: st, h)) := az_wp_iff.trans az_go_ldi
set_option maxRecDepth 20000 in
theorem az_sL_135 : az_pL C X Q (135, lv, st, h) ↔ az_pL C X Q (136, lv, .int (Int32.ofInt (1)) :: st, h) := az_wp_iff
set_option maxRecDepth 20000 in
theorem az_sL_136 {x y : Int32} : az_pL C X Q (136, lv, .int y :: .int x :: st, h) ↔ az_pL C X Q (137, lv, .int (x + y) :: st, h) := az_wp_iff
set_option maxRecDepth 20000 in
theorem az_sL_137 {a : Nat} {i : Int32} : az_pL C X Q (137, lv, .int i :: .ref a :: st, h) ↔ az_mr ((X a).getD (h.1 a)) 0 i.toInt (fun x => az_pL C X Q (138, lv, .int x :: st, h)) := az_wp_iff.trans az_go_ialX
set_option maxRecDepth 20000 in
theorem az_sL_138 : az_pL C X Q (138, lv, st, h) ↔ az_ma (lv 0) (fun x => az_pL C X Q (139, lv, x :: st, h)) := az_wp_iff.trans az_go_lda
set_option maxRecDepth 20000 in
theorem az_sL_139 : az_pL C X Q (139, lv, st, h) ↔ az_mi (lv 3) (fun x => az_pL C X Q (140, lv, .int x :: st, h)) := az_wp_iff.trans az_go_ldi
set_option maxRecDepth 20000 in
theorem az_sL_140 : az_pL C X Q (140, lv, st, h) ↔ az_pL C X Q (141, lv, .int (Int32.ofInt (2)) :: st, h) := az_wp_iff
set_option maxRecDepth 20000 in
theorem az_sL_141 {x y : Int32} : az_pL C X Q (141, lv, .int y :: .int x :: st, h) ↔ az_pL C X Q (142, lv, .int (x + y) :: st, h) := az_wp_iff
set_option maxRecDepth 20000 in
theorem az_sL_142 {a : Nat} {i : Int32} : az_pL C X Q (142, lv, .int i :: .ref a :: st, h) ↔ az_mr ((X a).getD (h.1 a)) 0 i.toInt (fun x => az_pL C X Q (143, lv, .int x :: st, h)) := az_wp_iff.trans az_go_ialX
set_option maxRecDepth 20000 in
theorem az_sL_143 {a : Nat} {v1 v2 : Value} : az_pL C X Q (143, lv, v2 :: v1 :: .ref a :: st, h) ↔ az_isob (h.1 a) 10 = true ∧ az_cat st ≤ 8 ∧ az_mc C 110 [.ref a, v1, v2] h (fun v h' => az_pL C X Q (146, lv, v ++ st, h')) := az_wp_iff.trans (az_go_if.trans (and_congr Iff.rfl az_go_call))
set_option maxRecDepth 20000 in
theorem az_sL_146 : az_pL C X Q (146, lv, st, h) ↔ az_ma (lv 2) (fun x => az_pL C X Q (147, lv, x :: st, h)) := az_wp_iff.trans az_go_lda
set_option maxRecDepth 20000 in
theorem az_sL_147 : az_pL C X Q (147, lv, st, h) ↔ az_ma (lv 0) (fun x => az_pL C X Q (148, lv, x :: st, h)) := az_wp_iff.trans az_go_lda
set_option maxRecDepth 20000 in
theorem az_sL_148 : az_pL C X Q (148, lv, st, h) ↔ az_mi (lv 3) (fun x => az_pL C X Q (149, lv, .int x :: st, h)) := az_wp_iff.trans az_go_ldi
set_option maxRecDepth 20000 in
theorem az_sL_149 : az_pL C X Q (149, lv, st, h) ↔ az_pL C X Q (150, lv, .int (Int32.ofInt (1)) :: st, h) := az_wp_iff
set_option maxRecDepth 20000 in
theorem az_sL_150 {x y : Int32} : az_pL C X Q (150, lv, .int y :: .int x :: st, h) ↔ az_pL C X Q (151, lv, .int (x + y) :: st, h) := az_wp_iff
set_option maxRecDepth 20000 in
theorem az_sL_151 {a : Nat} {i : Int32} : az_pL C X Q (151, lv, .int i :: .ref a :: st, h) ↔ az_mr ((X a).getD (h.1 a)) 0 i.toInt (fun x => az_pL C X Q (152, lv, .int x :: st, h)) := az_wp_iff.trans az_go_ialX
set_option maxRecDepth 20000 in
theorem az_sL_152 : az_pL C X Q (152, lv, st, h) ↔ az_ma (lv 0) (fun x => az_pL C X Q (153, lv, x :: st, h)) := az_wp_iff.trans az_go_lda
set_option maxRecDepth 20000 in
theorem az_sL_153 : az_pL C X Q (153, lv, st, h) ↔ az_mi (lv 3) (fun x => az_pL C X Q (154, lv, .int x :: st, h)) := az_wp_iff.trans az_go_ldi
set_option maxRecDepth 20000 in
theorem az_sL_154 : az_pL C X Q (154, lv, st, h) ↔ az_pL C X Q (155, lv, .int (Int32.ofInt (2)) :: st, h) := az_wp_iff
set_option maxRecDepth 20000 in
theorem az_sL_155 {x y : Int32} : az_pL C X Q (155, lv, .int y :: .int x :: st, h) ↔ az_pL C X Q (156, lv, .int (x + y) :: st, h) := az_wp_iff
set_option maxRecDepth 20000 in
theorem az_sL_156 {a : Nat} {i : Int32} : az_pL C X Q (156, lv, .int i :: .ref a :: st, h) ↔ az_mr ((X a).getD (h.1 a)) 0 i.toInt (fun x => az_pL C X Q (157, lv, .int x :: st, h)) := az_wp_iff.trans az_go_ialX
set_option maxRecDepth 20000 in
theorem az_sL_157 {a : Nat} {v1 v2 : Value} : az_pL C X Q (157, lv, v2 :: v1 :: .ref a :: st, h) ↔ az_isob (h.1 a) 11 = true ∧ az_cat st ≤ 8 ∧ az_mc C 137 [.ref a, v1, v2] h (fun v h' => az_pL C X Q (160, lv, v ++ st, h')) := az_wp_iff.trans (az_go_if.trans (and_congr Iff.rfl az_go_call))
set_option maxRecDepth 20000 in
theorem az_sL_160 {x y : Int32} : az_pL C X Q (160, lv, .int y :: .int x :: st, h) ↔ (x = y → az_pL C X Q (836, lv, st, h)) ∧ (¬ x = y → az_pL C X Q (163, lv, st, h)) := az_wp_iff.trans (az_go_if2 az_d_eq)
set_option maxRecDepth 20000 in
theorem az_sL_163 : az_pL C X Q (163, lv, st, h) ↔ az_pL C X Q (164, lv, .int (Int32.ofInt (0)) :: st, h) := az_wp_iff
set_option maxRecDepth 20000 in
theorem az_sL_164 {x : Int32} : az_pL C X Q (164, lv, [.int x], h) ↔ (x = 0 ∨ x = 1) ∧ Q (some (.int x)) h := az_wp_iff.trans az_go_if
set_option maxRecDepth 20000 in
theorem az_sL_165 : az_pL C X Q (165, lv, st, h) ↔ az_ma (lv 1) (fun x => az_pL C X Q (166, lv, x :: st, h)) := az_wp_iff.trans az_go_lda
set_option maxRecDepth 20000 in
theorem az_sL_166 : az_pL C X Q (166, lv, st, h) ↔ az_ma (lv 0) (fun x => az_pL C X Q (167, lv, x :: st, h)) := az_wp_iff.trans az_go_lda
set_option maxRecDepth 20000 in
theorem az_sL_167 : az_pL C X Q (167, lv, st, h) ↔ az_mi (lv 3) (fun x => az_pL C X Q (168, lv, .int x :: st, h)) := az_wp_iff.trans az_go_ldi
set_option maxRecDepth 20000 in
theorem az_sL_168 : az_pL C X Q (168, lv, st, h) ↔ az_pL C X Q (169, lv, .int (Int32.ofInt (1)) :: st, h) := az_wp_iff
set_option maxRecDepth 20000 in
theorem az_sL_169 {x y : Int32} : az_pL C X Q (169, lv, .int y :: .int x :: st, h) ↔ az_pL C X Q (170, lv, .int (x + y) :: st, h) := az_wp_iff
set_option maxRecDepth 20000 in
theorem az_sL_170 {a : Nat} {i : Int32} : az_pL C X Q (170, lv, .int i :: .ref a :: st, h) ↔ az_mr ((X a).getD (h.1 a)) 0 i.toInt (fun x => az_pL C X Q (171, lv, .int x :: st, h)) := az_wp_iff.trans az_go_ialX
set_option maxRecDepth 20000 in
theorem az_sL_171 : az_pL C X Q (171, lv, st, h) ↔ az_ma (lv 0) (fun x => az_pL C X Q (172, lv, x :: st, h)) := az_wp_iff.trans az_go_lda
set_option maxRecDepth 20000 in
theorem az_sL_172 : az_pL C X Q (172, lv, st, h) ↔ az_mi (lv 3) (fun x => az_pL C X Q (173, lv, .int x :: st, h)) := az_wp_iff.trans az_go_ldi
set_option maxRecDepth 20000 in
theorem az_sL_173 : az_pL C X Q (173, lv, st, h) ↔ az_pL C X Q (174, lv, .int (Int32.ofInt (2)) :: st, h) := az_wp_iff
set_option maxRecDepth 20000 in
theorem az_sL_174 {x y : Int32} : az_pL C X Q (174, lv, .int y :: .int x :: st, h) ↔ az_pL C X Q (175, lv, .int (x + y) :: st, h) := az_wp_iff
set_option maxRecDepth 20000 in
theorem az_sL_175 {a : Nat} {i : Int32} : az_pL C X Q (175, lv, .int i :: .ref a :: st, h) ↔ az_mr ((X a).getD (h.1 a)) 0 i.toInt (fun x => az_pL C X Q (176, lv, .int x :: st, h)) := az_wp_iff.trans az_go_ialX
set_option maxRecDepth 20000 in
theorem az_sL_176 : az_pL C X Q (176, lv, st, h) ↔ az_ma (lv 0) (fun x => az_pL C X Q (177, lv, x :: st, h)) := az_wp_iff.trans az_go_lda
set_option maxRecDepth 20000 in
theorem az_sL_177 : az_pL C X Q (177, lv, st, h) ↔ az_mi (lv 3) (fun x => az_pL C X Q (178, lv, .int x :: st, h)) := az_wp_iff.trans az_go_ldi
set_option maxRecDepth 20000 in
theorem az_sL_178 : az_pL C X Q (178, lv, st, h) ↔ az_pL C X Q (179, lv, .int (Int32.ofInt (3)) :: st, h) := az_wp_iff
set_option maxRecDepth 20000 in
theorem az_sL_179 {x y : Int32} : az_pL C X Q (179, lv, .int y :: .int x :: st, h) ↔ az_pL C X Q (180, lv, .int (x + y) :: st, h) := az_wp_iff
set_option maxRecDepth 20000 in
theorem az_sL_180 {a : Nat} {i : Int32} : az_pL C X Q (180, lv, .int i :: .ref a :: st, h) ↔ az_mr ((X a).getD (h.1 a)) 0 i.toInt (fun x => az_pL C X Q (181, lv, .int x :: st, h)) := az_wp_iff.trans az_go_ialX
set_option maxRecDepth 20000 in
theorem az_sL_181 : az_pL C X Q (181, lv, st, h) ↔ az_ma (lv 0) (fun x => az_pL C X Q (182, lv, x :: st, h)) := az_wp_iff.trans az_go_lda
set_option maxRecDepth 20000 in
theorem az_sL_182 : az_pL C X Q (182, lv, st, h) ↔ az_mi (lv 3) (fun x => az_pL C X Q (183, lv, .int x :: st, h)) := az_wp_iff.trans az_go_ldi
set_option maxRecDepth 20000 in
theorem az_sL_183 : az_pL C X Q (183, lv, st, h) ↔ az_pL C X Q (184, lv, .int (Int32.ofInt (4)) :: st, h) := az_wp_iff
set_option maxRecDepth 20000 in
theorem az_sL_184 {x y : Int32} : az_pL C X Q (184, lv, .int y :: .int x :: st, h) ↔ az_pL C X Q (185, lv, .int (x + y) :: st, h) := az_wp_iff
set_option maxRecDepth 20000 in
theorem az_sL_185 {a : Nat} {i : Int32} : az_pL C X Q (185, lv, .int i :: .ref a :: st, h) ↔ az_mr ((X a).getD (h.1 a)) 0 i.toInt (fun x => az_pL C X Q (186, lv, .int x :: st, h)) := az_wp_iff.trans az_go_ialX
set_option maxRecDepth 20000 in
theorem az_sL_186 {a : Nat} {v1 v2 v3 v4 : Value} : az_pL C X Q (186, lv, v4 :: v3 :: v2 :: v1 :: .ref a :: st, h) ↔ az_isob (h.1 a) 10 = true ∧ az_cat st ≤ 8 ∧ az_mc C 111 [.ref a, v1, v2, v3, v4] h (fun v h' => az_pL C X Q (189, lv, v ++ st, h')) := az_wp_iff.trans (az_go_if.trans (and_congr Iff.rfl az_go_call))
set_option maxRecDepth 20000 in
theorem az_sL_189 : az_pL C X Q (189, lv, st, h) ↔ az_ma (lv 2) (fun x => az_pL C X Q (190, lv, x :: st, h)) := az_wp_iff.trans az_go_lda
set_option maxRecDepth 20000 in
theorem az_sL_190 : az_pL C X Q (190, lv, st, h) ↔ az_ma (lv 0) (fun x => az_pL C X Q (191, lv, x :: st, h)) := az_wp_iff.trans az_go_lda
set_option maxRecDepth 20000 in
theorem az_sL_191 : az_pL C X Q (191, lv, st, h) ↔ az_mi (lv 3) (fun x => az_pL C X Q (192, lv, .int x :: st, h)) := az_wp_iff.trans az_go_ldi
set_option maxRecDepth 20000 in
theorem az_sL_192 : az_pL C X Q (192, lv, st, h) ↔ az_pL C X Q (193, lv, .int (Int32.ofInt (1)) :: st, h) := az_wp_iff
set_option maxRecDepth 20000 in
theorem az_sL_193 {x y : Int32} : az_pL C X Q (193, lv, .int y :: .int x :: st, h) ↔ az_pL C X Q (194, lv, .int (x + y) :: st, h) := az_wp_iff
set_option maxRecDepth 20000 in
theorem az_sL_194 {a : Nat} {i : Int32} : az_pL C X Q (194, lv, .int i :: .ref a :: st, h) ↔ az_mr ((X a).getD (h.1 a)) 0 i.toInt (fun x => az_pL C X Q (195, lv, .int x :: st, h)) := az_wp_iff.trans az_go_ialX
set_option maxRecDepth 20000 in
theorem az_sL_195 : az_pL C X Q (195, lv, st, h) ↔ az_ma (lv 0) (fun x => az_pL C X Q (196, lv, x :: st, h)) := az_wp_iff.trans az_go_lda
set_option maxRecDepth 20000 in
theorem az_sL_196 : az_pL C X Q (196, lv, st, h) ↔ az_mi (lv 3) (fun x => az_pL C X Q (197, lv, .int x :: st, h)) := az_wp_iff.trans az_go_ldi
set_option maxRecDepth 20000 in
theorem az_sL_197 : az_pL C X Q (197, lv, st, h) ↔ az_pL C X Q (198, lv, .int (Int32.ofInt (2)) :: st, h) := az_wp_iff
set_option maxRecDepth 20000 in
theorem az_sL_198 {x y : Int32} : az_pL C X Q (198, lv, .int y :: .int x :: st, h) ↔ az_pL C X Q (199, lv, .int (x + y) :: st, h) := az_wp_iff
set_option maxRecDepth 20000 in
theorem az_sL_199 {a : Nat} {i : Int32} : az_pL C X Q (199, lv, .int i :: .ref a :: st, h) ↔ az_mr ((X a).getD (h.1 a)) 0 i.toInt (fun x => az_pL C X Q (200, lv, .int x :: st, h)) := az_wp_iff.trans az_go_ialX
set_option maxRecDepth 20000 in
theorem az_sL_200 : az_pL C X Q (200, lv, st, h) ↔ az_ma (lv 0) (fun x => az_pL C X Q (201, lv, x :: st, h)) := az_wp_iff.trans az_go_lda
set_option maxRecDepth 20000 in
theorem az_sL_201 : az_pL C X Q (201, lv, st, h) ↔ az_mi (lv 3) (fun x => az_pL C X Q (202, lv, .int x :: st, h)) := az_wp_iff.trans az_go_ldi
set_option maxRecDepth 20000 in
theorem az_sL_202 : az_pL C X Q (202, lv, st, h) ↔ az_pL C X Q (203, lv, .int (Int32.ofInt (3)) :: st, h) := az_wp_iff
set_option maxRecDepth 20000 in
theorem az_sL_203 {x y : Int32} : az_pL C X Q (203, lv, .int y :: .int x :: st, h) ↔ az_pL C X Q (204, lv, .int (x + y) :: st, h) := az_wp_iff
set_option maxRecDepth 20000 in
theorem az_sL_204 {a : Nat} {i : Int32} : az_pL C X Q (204, lv, .int i :: .ref a :: st, h) ↔ az_mr ((X a).getD (h.1 a)) 0 i.toInt (fun x => az_pL C X Q (205, lv, .int x :: st, h)) := az_wp_iff.trans az_go_ialX
set_option maxRecDepth 20000 in
theorem az_sL_205 : az_pL C X Q (205, lv, st, h) ↔ az_ma (lv 0) (fun x => az_pL C X Q (206, lv, x :: st, h)) := az_wp_iff.trans az_go_lda
set_option maxRecDepth 20000 in
theorem az_sL_206 : az_pL C X Q (206, lv, st, h) ↔ az_mi (lv 3) (fun x => az_pL C X Q (207, lv, .int x :: st, h)) := az_wp_iff.trans az_go_ldi
set_option maxRecDepth 20000 in
theorem az_sL_207 : az_pL C X Q (207, lv, st, h) ↔ az_pL C X Q (208, lv, .int (Int32.ofInt (4)) :: st, h) := az_wp_iff
set_option maxRecDepth 20000 in
theorem az_sL_208 {x y : Int32} : az_pL C X Q (208, lv, .int y :: .int x :: st, h) ↔ az_pL C X Q (209, lv, .int (x + y) :: st, h) := az_wp_iff
set_option maxRecDepth 20000 in
theorem az_sL_209 {a : Nat} {i : Int32} : az_pL C X Q (209, lv, .int i :: .ref a :: st, h) ↔ az_mr ((X a).getD (h.1 a)) 0 i.toInt (fun x => az_pL C X Q (210, lv, .int x :: st, h)) := az_wp_iff.trans az_go_ialX
set_option maxRecDepth 20000 in
theorem az_sL_210 {a : Nat} {v1 v2 v3 v4 : Value} : az_pL C X Q (210, lv, v4 :: v3 :: v2 :: v1 :: .ref a :: st, h) ↔ az_isob (h.1 a) 11 = true ∧ az_cat st ≤ 8 ∧ az_mc C 139 [.ref a, v1, v2, v3, v4] h (fun v h' => az_pL C X Q (213, lv, v ++ st, h')) := az_wp_iff.trans (az_go_if.trans (and_congr Iff.rfl az_go_call))
set_option maxRecDepth 20000 in
theorem az_sL_213 {x y : Int32} : az_pL C X Q (213, lv, .int y :: .int x :: st, h) ↔ (x = y → az_pL C X Q (836, lv, st, h)) ∧ (¬ x = y → az_pL C X Q (216, lv, st, h)) := az_wp_iff.trans (az_go_if2 az_d_eq)
set_option maxRecDepth 20000 in
theorem az_sL_216 : az_pL C X Q (216, lv, st, h) ↔ az_pL C X Q (217, lv, .int (Int32.ofInt (0)) :: st, h) := az_wp_iff
set_option maxRecDepth 20000 in
theorem az_sL_217 {x : Int32} : az_pL C X Q (217, lv, [.int x], h) ↔ (x = 0 ∨ x = 1) ∧ Q (some (.int x)) h := az_wp_iff.trans az_go_if
set_option maxRecDepth 20000 in
theorem az_sL_218 : az_pL C X Q (218, lv, st, h) ↔ az_ma (lv 1) (fun x => az_pL C X Q (219, lv, x :: st, h)) := az_wp_iff.trans az_go_lda
set_option maxRecDepth 20000 in
theorem az_sL_219 : az_pL C X Q (219, lv, st, h) ↔ az_ma (lv 0) (fun x => az_pL C X Q (220, lv, x :: st, h)) := az_wp_iff.trans az_go_lda
set_option maxRecDepth 20000 in
theorem az_sL_220 : az_pL C X Q (220, lv, st, h) ↔ az_mi (lv 3) (fun x => az_pL C X Q (221, lv, .int x :: st, h)) := az_wp_iff.trans az_go_ldi
set_option maxRecDepth 20000 in
theorem az_sL_221 : az_pL C X Q (221, lv, st, h) ↔ az_pL C X Q (222, lv, .int (Int32.ofInt (1)) :: st, h) := az_wp_iff
set_option maxRecDepth 20000 in
theorem az_sL_222 {x y : Int32} : az_pL C X Q (222, lv, .int y :: .int x :: st, h) ↔ az_pL C X Q (223, lv, .int (x + y) :: st, h) := az_wp_iff
set_option maxRecDepth 20000 in
theorem az_sL_223 {a : Nat} {i : Int32} : az_pL C X Q (223, lv, .int i :: .ref a :: st, h) ↔ az_mr ((X a).getD (h.1 a)) 0 i.toInt (fun x => az_pL C X Q (224, lv, .int x :: st, h)) := az_wp_iff.trans az_go_ialX
set_option maxRecDepth 20000 in
theorem az_sL_224 : az_pL C X Q (224, lv, st, h) ↔ az_ma (lv 0) (fun x => az_pL C X Q (225, lv, x :: st, h)) := az_wp_iff.trans az_go_lda
set_option maxRecDepth 20000 in
theorem az_sL_225 : az_pL C X Q (225, lv, st, h) ↔ az_mi (lv 3) (fun x => az_pL C X Q (226, lv, .int x :: st, h)) := az_wp_iff.trans az_go_ldi
set_option maxRecDepth 20000 in
theorem az_sL_226 : az_pL C X Q (226, lv, st, h) ↔ az_pL C X Q (227, lv, .int (Int32.ofInt (2)) :: st, h) := az_wp_iff
set_option maxRecDepth 20000 in
theorem az_sL_227 {x y : Int32} : az_pL C X Q (227, lv, .int y :: .int x :: st, h) ↔ az_pL C X Q (228, lv, .int (x + y) :: st, h) := az_wp_iff
set_option maxRecDepth 20000 in
theorem az_sL_228 {a : Nat} {i : Int32} : az_pL C X Q (228, lv, .int i :: .ref a :: st, h) ↔ az_mr ((X a).getD (h.1 a)) 0 i.toInt (fun x => az_pL C X Q (229, lv, .int x :: st, h)) := az_wp_iff.trans az_go_ialX
set_option maxRecDepth 20000 in
theorem az_sL_229 {a : Nat} {v1 v2 : Value} : az_pL C X Q (229, lv, v2 :: v1 :: .ref a :: st, h) ↔ az_isob (h.1 a) 10 = true ∧ az_cat st ≤ 8 ∧ az_mc C 112 [.ref a, v1, v2] h (fun v h' => az_pL C X Q (232, lv, v ++ st, h')) := az_wp_iff.trans (az_go_if.trans (and_congr Iff.rfl az_go_call))
set_option maxRecDepth 20000 in
theorem az_sL_232 : az_pL C X Q (232, lv, st, h) ↔ az_ma (lv 2) (fun x => az_pL C X Q (233, lv, x :: st, h)) := az_wp_iff.trans az_go_lda
set_option maxRecDepth 20000 in
theorem az_sL_233 : az_pL C X Q (233, lv, st, h) ↔ az_ma (lv 0) (fun x => az_pL C X Q (234, lv, x :: st, h)) := az_wp_iff.trans az_go_lda
set_option maxRecDepth 20000 in
theorem az_sL_234 : az_pL C X Q (234, lv, st, h) ↔ az_mi (lv 3) (fun x => az_pL C X Q (235, lv, .int x :: st, h)) := az_wp_iff.trans az_go_ldi
set_option maxRecDepth 20000 in
theorem az_sL_235 : az_pL C X Q (235, lv, st, h) ↔ az_pL C X Q (236, lv, .int (Int32.ofInt (1)) :: st, h) := az_wp_iff
set_option maxRecDepth 20000 in
theorem az_sL_236 {x y : Int32} : az_pL C X Q (236, lv, .int y :: .int x :: st, h) ↔ az_pL C X Q (237, lv, .int (x + y) :: st, h) := az_wp_iff
set_option maxRecDepth 20000 in
theorem az_sL_237 {a : Nat} {i : Int32} : az_pL C X Q (237, lv, .int i :: .ref a :: st, h) ↔ az_mr ((X a).getD (h.1 a)) 0 i.toInt (fun x => az_pL C X Q (238, lv, .int x :: st, h)) := az_wp_iff.trans az_go_ialX
set_option maxRecDepth 20000 in
theorem az_sL_238 : az_pL C X Q (238, lv, st, h) ↔ az_ma (lv 0) (fun x => az_pL C X Q (239, lv, x :: st, h)) := az_wp_iff.trans az_go_lda
set_option maxRecDepth 20000 in
theorem az_sL_239 : az_pL C X Q (239, lv, st, h) ↔ az_mi (lv 3) (fun x => az_pL C X Q (240, lv, .int x :: st, h)) := az_wp_iff.trans az_go_ldi
set_option maxRecDepth 20000 in
theorem az_sL_240 : az_pL C X Q (240, lv, st, h) ↔ az_pL C X Q (241, lv, .int (Int32.ofInt (2)) :: st, h) := az_wp_iff
set_option maxRecDepth 20000 in
theorem az_sL_241 {x y : Int32} : az_pL C X Q (241, lv, .int y :: .int x :: st, h) ↔ az_pL C X Q (242, lv, .int (x + y) :: st, h) := az_wp_iff
set_option maxRecDepth 20000 in
theorem az_sL_242 {a : Nat} {i : Int32} : az_pL C X Q (242, lv, .int i :: .ref a :: st, h) ↔ az_mr ((X a).getD (h.1 a)) 0 i.toInt (fun x => az_pL C X Q (243, lv, .int x :: st, h)) := az_wp_iff.trans az_go_ialX
set_option maxRecDepth 20000 in
theorem az_sL_243 {a : Nat} {v1 v2 : Value} : az_pL C X Q (243, lv, v2 :: v1 :: .ref a :: st, h) ↔ az_isob (h.1 a) 11 = true ∧ az_cat st ≤ 8 ∧ az_mc C 142 [.ref a, v1, v2] h (fun v h' => az_pL C X Q (246, lv, v ++ st, h')) := az_wp_iff.trans (az_go_if.trans (and_congr Iff.rfl az_go_call))
set_option maxRecDepth 20000 in
theorem az_sL_246 {x y : Int32} : az_pL C X Q (246, lv, .int y :: .int x :: st, h) ↔ (x = y → az_pL C X Q (836, lv, st, h)) ∧ (¬ x = y → az_pL C X Q (249, lv, st, h)) := az_wp_iff.trans (az_go_if2 az_d_eq)
set_option maxRecDepth 20000 in
theorem az_sL_249 : az_pL C X Q (249, lv, st, h) ↔ az_pL C X Q (250, lv, .int (Int32.ofInt (0)) :: st, h) := az_wp_iff
set_option maxRecDepth 20000 in
theorem az_sL_250 {x : Int32} : az_pL C X Q (250, lv, [.int x], h) ↔ (x = 0 ∨ x = 1) ∧ Q (some (.int x)) h := az_wp_iff.trans az_go_if
set_option maxRecDepth 20000 in
theorem az_sL_251 : az_pL C X Q (251, lv, st, h) ↔ az_ma (lv 1) (fun x => az_pL C X Q (252, lv, x :: st, h)) := az_wp_iff.trans az_go_lda
set_option maxRecDepth 20000 in
theorem az_sL_252 : az_pL C X Q (252, lv, st, h) ↔ az_ma (lv 0) (fun x => az_pL C X Q (253, lv, x :: st, h)) := az_wp_iff.trans az_go_lda
set_option maxRecDepth 20000 in
theorem az_sL_253 : az_pL C X Q (253, lv, st, h) ↔ az_mi (lv 3) (fun x => az_pL C X Q (254, lv, .int x :: st, h)) := az_wp_iff.trans az_go_ldi
set_option maxRecDepth 20000 in
theorem az_sL_254 : az_pL C X Q (254, lv, st, h) ↔ az_pL C X Q (255, lv, .int (Int32.ofInt (1)) :: st, h) := az_wp_iff
set_option maxRecDepth 20000 in
theorem az_sL_255 {x y : Int32} : az_pL C X Q (255, lv, .int y :: .int x :: st, h) ↔ az_pL C X Q (256, lv, .int (x + y) :: st, h) := az_wp_iff
set_option maxRecDepth 20000 in
theorem az_sL_256 {a : Nat} {i : Int32} : az_pL C X Q (256, lv, .int i :: .ref a :: st, h) ↔ az_mr ((X a).getD (h.1 a)) 0 i.toInt (fun x => az_pL C X Q (257, lv, .int x :: st, h)) := az_wp_iff.trans az_go_ialX
set_option maxRecDepth 20000 in
theorem az_sL_257 : az_pL C X Q (257, lv, st, h) ↔ az_ma (lv 0) (fun x => az_pL C X Q (258, lv, x :: st, h)) := az_wp_iff.trans az_go_lda
set_option maxRecDepth 20000 in
theorem az_sL_258 : az_pL C X Q (258, lv, st, h) ↔ az_mi (lv 3) (fun x => az_pL C X Q (259, lv, .int x :: st, h)) := az_wp_iff.trans az_go_ldi
set_option maxRecDepth 20000 in
theorem az_sL_259 : az_pL C X Q (259, lv, st, h) ↔ az_pL C X Q (260, lv, .int (Int32.ofInt (2)) :: st, h) := az_wp_iff
set_option maxRecDepth 20000 in
theorem az_sL_260 {x y : Int32} : az_pL C X Q (260, lv, .int y :: .int x :: st, h) ↔ az_pL C X Q (261, lv, .int (x + y) :: st, h) := az_wp_iff
set_option maxRecDepth 20000 in
theorem az_sL_261 {a : Nat} {i : Int32} : az_pL C X Q (261, lv, .int i :: .ref a :: st, h) ↔ az_mr ((X a).getD (h.1 a)) 0 i.toInt (fun x => az_pL C X Q (262, lv, .int x :: st, h)) := az_wp_iff.trans az_go_ialX
set_option maxRecDepth 20000 in
theorem az_sL_262 : az_pL C X Q (262, lv, st, h) ↔ az_ma (lv 0) (fun x => az_pL C X Q (263, lv, x :: st, h)) := az_wp_iff.trans az_go_lda
set_option maxRecDepth 20000 in
theorem az_sL_263 : az_pL C X Q (263, lv, st, h) ↔ az_mi (lv 3) (fun x => az_pL C X Q (264, lv, .int x :: st, h)) := az_wp_iff.trans az_go_ldi
set_option maxRecDepth 20000 in
theorem az_sL_264 : az_pL C X Q (264, lv, st, h) ↔ az_pL C X Q (265, lv, .int (Int32.ofInt (3)) :: st, h) := az_wp_iff
set_option maxRecDepth 20000 in
theorem az_sL_265 {x y : Int32} : az_pL C X Q (265, lv, .int y :: .int x :: st, h) ↔ az_pL C X Q (266, lv, .int (x + y) :: st, h) := az_wp_iff
set_option maxRecDepth 20000 in
theorem az_sL_266 {a : Nat} {i : Int32} : az_pL C X Q (266, lv, .int i :: .ref a :: st, h) ↔ az_mr ((X a).getD (h.1 a)) 0 i.toInt (fun x => az_pL C X Q (267, lv, .int x :: st, h)) := az_wp_iff.trans az_go_ialX
set_option maxRecDepth 20000 in
theorem az_sL_267 {a : Nat} {v1 v2 v3 : Value} : az_pL C X Q (267, lv, v3 :: v2 :: v1 :: .ref a :: st, h) ↔ az_isob (h.1 a) 10 = true ∧ az_cat st ≤ 8 ∧ az_mc C 113 [.ref a, v1, v2, v3] h (fun v h' => az_pL C X Q (270, lv, v ++ st, h')) := az_wp_iff.trans (az_go_if.trans (and_congr Iff.rfl az_go_call))
set_option maxRecDepth 20000 in
theorem az_sL_270 : az_pL C X Q (270, lv, st, h) ↔ az_ma (lv 2) (fun x => az_pL C X Q (271, lv, x :: st, h)) := az_wp_iff.trans az_go_lda
set_option maxRecDepth 20000 in
theorem az_sL_271 : az_pL C X Q (271, lv, st, h) ↔ az_ma (lv 0) (fun x => az_pL C X Q (272, lv, x :: st, h)) := az_wp_iff.trans az_go_lda
set_option maxRecDepth 20000 in
theorem az_sL_272 : az_pL C X Q (272, lv, st, h) ↔ az_mi (lv 3) (fun x => az_pL C X Q (273, lv, .int x :: st, h)) := az_wp_iff.trans az_go_ldi
set_option maxRecDepth 20000 in
theorem az_sL_273 : az_pL C X Q (273, lv, st, h) ↔ az_pL C X Q (274, lv, .int (Int32.ofInt (1)) :: st, h) := az_wp_iff
set_option maxRecDepth 20000 in
theorem az_sL_274 {x y : Int32} : az_pL C X Q (274, lv, .int y :: .int x :: st, h) ↔ az_pL C X Q (275, lv, .int (x + y) :: st, h) := az_wp_iff
set_option maxRecDepth 20000 in
theorem az_sL_275 {a : Nat} {i : Int32} : az_pL C X Q (275, lv, .int i :: .ref a :: st, h) ↔ az_mr ((X a).getD (h.1 a)) 0 i.toInt (fun x => az_pL C X Q (276, lv, .int x :: st, h)) := az_wp_iff.trans az_go_ialX
set_option maxRecDepth 20000 in
theorem az_sL_276 : az_pL C X Q (276, lv, st, h) ↔ az_ma (lv 0) (fun x => az_pL C X Q (277, lv, x :: st, h)) := az_wp_iff.trans az_go_lda
set_option maxRecDepth 20000 in
theorem az_sL_277 : az_pL C X Q (277, lv, st, h) ↔ az_mi (lv 3) (fun x => az_pL C X Q (278, lv, .int x :: st, h)) := az_wp_iff.trans az_go_ldi
set_option maxRecDepth 20000 in
theorem az_sL_278 : az_pL C X Q (278, lv, st, h) ↔ az_pL C X Q (279, lv, .int (Int32.ofInt (2)) :: st, h) := az_wp_iff
set_option maxRecDepth 20000 in
theorem az_sL_279 {x y : Int32} : az_pL C X Q (279, lv, .int y :: .int x :: st, h) ↔ az_pL C X Q (280, lv, .int (x + y) :: st, h) := az_wp_iff
set_option maxRecDepth 20000 in
theorem az_sL_280 {a : Nat} {i : Int32} : az_pL C X Q (280, lv, .int i :: .ref a :: st, h) ↔ az_mr ((X a).getD (h.1 a)) 0 i.toInt (fun x => az_pL C X Q (281, lv, .int x :: st, h)) := az_wp_iff.trans az_go_ialX
set_option maxRecDepth 20000 in
theorem az_sL_281 : az_pL C X Q (281, lv, st, h) ↔ az_ma (lv 0) (fun x => az_pL C X Q (282, lv, x :: st, h)) := az_wp_iff.trans az_go_lda
set_option maxRecDepth 20000 in
theorem az_sL_282 : az_pL C X Q (282, lv, st, h) ↔ az_mi (lv 3) (fun x => az_pL C X Q (283, lv, .int x :: st, h)) := az_wp_iff.trans az_go_ldi
set_option maxRecDepth 20000 in
theorem az_sL_283 : az_pL C X Q (283, lv, st, h) ↔ az_pL C X Q (284, lv, .int (Int32.ofInt (3)) :: st, h) := az_wp_iff
set_option maxRecDepth 20000 in
theorem az_sL_284 {x y : Int32} : az_pL C X Q (284, lv, .int y :: .int x :: st, h) ↔ az_pL C X Q (285, lv, .int (x + y) :: st, h) := az_wp_iff
set_option maxRecDepth 20000 in
theorem az_sL_285 {a : Nat} {i : Int32} : az_pL C X Q (285, lv, .int i :: .ref a :: st, h) ↔ az_mr ((X a).getD (h.1 a)) 0 i.toInt (fun x => az_pL C X Q (286, lv, .int x :: st, h)) := az_wp_iff.trans az_go_ialX
set_option maxRecDepth 20000 in
theorem az_sL_286 {a : Nat} {v1 v2 v3 : Value} : az_pL C X Q (286, lv, v3 :: v2 :: v1 :: .ref a :: st, h) ↔ az_isob (h.1 a) 11 = true ∧ az_cat st ≤ 8 ∧ az_mc C 143 [.ref a, v1, v2, v3] h (fun v h' => az_pL C X Q (289, lv, v ++ st, h')) := az_wp_iff.trans (az_go_if.trans (and_congr Iff.rfl az_go_call))
set_option maxRecDepth 20000 in
theorem az_sL_289 {x y : Int32} : az_pL C X Q (289, lv, .int y :: .int x :: st, h) ↔ (x = y → az_pL C X Q (836, lv, st, h)) ∧ (¬ x = y → az_pL C X Q (292, lv, st, h)) := az_wp_iff.trans (az_go_if2 az_d_eq)
set_option maxRecDepth 20000 in
theorem az_sL_292 : az_pL C X Q (292, lv, st, h) ↔ az_pL C X Q (293, lv, .int (Int32.ofInt (0)) :: st, h) := az_wp_iff
set_option maxRecDepth 20000 in
theorem az_sL_293 {x : Int32} : az_pL C X Q (293, lv, [.int x], h) ↔ (x = 0 ∨ x = 1) ∧ Q (some (.int x)) h := az_wp_iff.trans az_go_if
set_option maxRecDepth 20000 in
theorem az_sL_294 : az_pL C X Q (294, lv, st, h) ↔ az_ma (lv 1) (fun x => az_pL C X Q (295, lv, x :: st, h)) := az_wp_iff.trans az_go_lda
set_option maxRecDepth 20000 in
theorem az_sL_295 {a : Nat}  : az_pL C X Q (295, lv, .ref a :: st, h) ↔ az_isob (h.1 a) 10 = true ∧ az_cat st ≤ 8 ∧ az_mc C 114 [.ref a] h (fun v h' => az_pL C X Q (298, lv, v ++ st, h')) := az_wp_iff.trans (az_go_if.trans (and_congr Iff.rfl az_go_call))
set_option maxRecDepth 20000 in
theorem az_sL_298 : az_pL C X Q (298, lv, st, h) ↔ az_ma (lv 2) (fun x => az_pL C X Q (299, lv, x :: st, h)) := az_wp_iff.trans az_go_lda
set_option maxRecDepth 20000 in
theorem az_sL_299 {a : Nat}  : az_pL C X Q (299, lv, .ref a :: st, h) ↔ az_isob (h.1 a) 11 = true ∧ az_cat st ≤ 8 ∧ az_mc C 146 [.ref a] h (fun v h' => az_pL C X Q (302, lv, v ++ st, h')) := az_wp_iff.trans (az_go_if.trans (and_congr Iff.rfl az_go_call))
set_option maxRecDepth 20000 in
theorem az_sL_302 {x y : Int32} : az_pL C X Q (302, lv, .int y :: .int x :: st, h) ↔ (x = y → az_pL C X Q (836, lv, st, h)) ∧ (¬ x = y → az_pL C X Q (305, lv, st, h)) := az_wp_iff.trans (az_go_if2 az_d_eq)
set_option maxRecDepth 20000 in
theorem az_sL_305 : az_pL C X Q (305, lv, st, h) ↔ az_pL C X Q (306, lv, .int (Int32.ofInt (0)) :: st, h) := az_wp_iff
set_option maxRecDepth 20000 in
theorem az_sL_306 {x : Int32} : az_pL C X Q (306, lv, [.int x], h) ↔ (x = 0 ∨ x = 1) ∧ Q (some (.int x)) h := az_wp_iff.trans az_go_if
set_option maxRecDepth 20000 in
theorem az_sL_307 : az_pL C X Q (307, lv, st, h) ↔ az_ma (lv 1) (fun x => az_pL C X Q (308, lv, x :: st, h)) := az_wp_iff.trans az_go_lda
set_option maxRecDepth 20000 in
theorem az_sL_308 : az_pL C X Q (308, lv, st, h) ↔ az_ma (lv 0) (fun x => az_pL C X Q (309, lv, x :: st, h)) := az_wp_iff.trans az_go_lda
set_option maxRecDepth 20000 in
theorem az_sL_309 : az_pL C X Q (309, lv, st, h) ↔ az_mi (lv 3) (fun x => az_pL C X Q (310, lv, .int x :: st, h)) := az_wp_iff.trans az_go_ldi
set_option maxRecDepth 20000 in
theorem az_sL_310 : az_pL C X Q (310, lv, st, h) ↔ az_pL C X Q (311, lv, .int (Int32.ofInt (1)) :: st, h) := az_wp_iff
set_option maxRecDepth 20000 in
theorem az_sL_311 {x y : Int32} : az_pL C X Q (311, lv, .int y :: .int x :: st, h) ↔ az_pL C X Q (312, lv, .int (x + y) :: st, h) := az_wp_iff
set_option maxRecDepth 20000 in
theorem az_sL_312 {a : Nat} {i : Int32} : az_pL C X Q (312, lv, .int i :: .ref a :: st, h) ↔ az_mr ((X a).getD (h.1 a)) 0 i.toInt (fun x => az_pL C X Q (313, lv, .int x :: st, h)) := az_wp_iff.trans az_go_ialX
set_option maxRecDepth 20000 in
theorem az_sL_313 : az_pL C X Q (313, lv, st, h) ↔ az_ma (lv 0) (fun x => az_pL C X Q (314, lv, x :: st, h)) := az_wp_iff.trans az_go_lda
set_option maxRecDepth 20000 in
theorem az_sL_314 : az_pL C X Q (314, lv, st, h) ↔ az_mi (lv 3) (fun x => az_pL C X Q (315, lv, .int x :: st, h)) := az_wp_iff.trans az_go_ldi
set_option maxRecDepth 20000 in
theorem az_sL_315 : az_pL C X Q (315, lv, st, h) ↔ az_pL C X Q (316, lv, .int (Int32.ofInt (2)) :: st, h) := az_wp_iff
set_option maxRecDepth 20000 in
theorem az_sL_316 {x y : Int32} : az_pL C X Q (316, lv, .int y :: .int x :: st, h) ↔ az_pL C X Q (317, lv, .int (x + y) :: st, h) := az_wp_iff
set_option maxRecDepth 20000 in
theorem az_sL_317 {a : Nat} {i : Int32} : az_pL C X Q (317, lv, .int i :: .ref a :: st, h) ↔ az_mr ((X a).getD (h.1 a)) 0 i.toInt (fun x => az_pL C X Q (318, lv, .int x :: st, h)) := az_wp_iff.trans az_go_ialX
set_option maxRecDepth 20000 in
theorem az_sL_318 : az_pL C X Q (318, lv, st, h) ↔ az_ma (lv 0) (fun x => az_pL C X Q (319, lv, x :: st, h)) := az_wp_iff.trans az_go_lda
set_option maxRecDepth 20000 in
theorem az_sL_319 : az_pL C X Q (319, lv, st, h) ↔ az_mi (lv 3) (fun x => az_pL C X Q (320, lv, .int x :: st, h)) := az_wp_iff.trans az_go_ldi
set_option maxRecDepth 20000 in
theorem az_sL_320 : az_pL C X Q (320, lv, st, h) ↔ az_pL C X Q (321, lv, .int (Int32.ofInt (3)) :: st, h) := az_wp_iff
set_option maxRecDepth 20000 in
theorem az_sL_321 {x y : Int32} : az_pL C X Q (321, lv, .int y :: .int x :: st, h) ↔ az_pL C X Q (322, lv, .int (x + y) :: st, h) := az_wp_iff
set_option maxRecDepth 20000 in
theorem az_sL_322 {a : Nat} {i : Int32} : az_pL C X Q (322, lv, .int i :: .ref a :: st, h) ↔ az_mr ((X a).getD (h.1 a)) 0 i.toInt (fun x => az_pL C X Q (323, lv, .int x :: st, h)) := az_wp_iff.trans az_go_ialX
set_option maxRecDepth 20000 in
theorem az_sL_323 : az_pL C X Q (323, lv, st, h) ↔ az_ma (lv 0) (fun x => az_pL C X Q (324, lv, x :: st, h)) := az_wp_iff.trans az_go_lda
set_option maxRecDepth 20000 in
theorem az_sL_324 : az_pL C X Q (324, lv, st, h) ↔ az_mi (lv 3) (fun x => az_pL C X Q (325, lv, .int x :: st, h)) := az_wp_iff.trans az_go_ldi
set_option maxRecDepth 20000 in
theorem az_sL_325 : az_pL C X Q (325, lv, st, h) ↔ az_pL C X Q (326, lv, .int (Int32.ofInt (4)) :: st, h) := az_wp_iff
set_option maxRecDepth 20000 in
theorem az_sL_326 {x y : Int32} : az_pL C X Q (326, lv, .int y :: .int x :: st, h) ↔ az_pL C X Q (327, lv, .int (x + y) :: st, h) := az_wp_iff
set_option maxRecDepth 20000 in
theorem az_sL_327 {a : Nat} {i : Int32} : az_pL C X Q (327, lv, .int i :: .ref a :: st, h) ↔ az_mr ((X a).getD (h.1 a)) 0 i.toInt (fun x => az_pL C X Q (328, lv, .int x :: st, h)) := az_wp_iff.trans az_go_ialX
set_option maxRecDepth 20000 in
theorem az_sL_328 : az_pL C X Q (328, lv, st, h) ↔ az_ma (lv 0) (fun x => az_pL C X Q (329, lv, x :: st, h)) := az_wp_iff.trans az_go_lda
set_option maxRecDepth 20000 in
theorem az_sL_329 : az_pL C X Q (329, lv, st, h) ↔ az_mi (lv 3) (fun x => az_pL C X Q (330, lv, .int x :: st, h)) := az_wp_iff.trans az_go_ldi
set_option maxRecDepth 20000 in
theorem az_sL_330 : az_pL C X Q (330, lv, st, h) ↔ az_pL C X Q (331, lv, .int (Int32.ofInt (5)) :: st, h) := az_wp_iff
set_option maxRecDepth 20000 in
theorem az_sL_331 {x y : Int32} : az_pL C X Q (331, lv, .int y :: .int x :: st, h) ↔ az_pL C X Q (332, lv, .int (x + y) :: st, h) := az_wp_iff
set_option maxRecDepth 20000 in
theorem az_sL_332 {a : Nat} {i : Int32} : az_pL C X Q (332, lv, .int i :: .ref a :: st, h) ↔ az_mr ((X a).getD (h.1 a)) 0 i.toInt (fun x => az_pL C X Q (333, lv, .int x :: st, h)) := az_wp_iff.trans az_go_ialX
set_option maxRecDepth 20000 in
theorem az_sL_333 {a : Nat} {v1 v2 v3 v4 v5 : Value} : az_pL C X Q (333, lv, v5 :: v4 :: v3 :: v2 :: v1 :: .ref a :: st, h) ↔ az_isob (h.1 a) 10 = true ∧ az_cat st ≤ 8 ∧ az_mc C 115 [.ref a, v1, v2, v3, v4, v5] h (fun v h' => az_pL C X Q (336, lv, v ++ st, h')) := az_wp_iff.trans (az_go_if.trans (and_congr Iff.rfl az_go_call))
set_option maxRecDepth 20000 in
theorem az_sL_336 : az_pL C X Q (336, lv, st, h) ↔ az_ma (lv 2) (fun x => az_pL C X Q (337, lv, x :: st, h)) := az_wp_iff.trans az_go_lda
set_option maxRecDepth 20000 in
theorem az_sL_337 : az_pL C X Q (337, lv, st, h) ↔ az_ma (lv 0) (fun x => az_pL C X Q (338, lv, x :: st, h)) := az_wp_iff.trans az_go_lda
set_option maxRecDepth 20000 in
theorem az_sL_338 : az_pL C X Q (338, lv, st, h) ↔ az_mi (lv 3) (fun x => az_pL C X Q (339, lv, .int x :: st, h)) := az_wp_iff.trans az_go_ldi
set_option maxRecDepth 20000 in
theorem az_sL_339 : az_pL C X Q (339, lv, st, h) ↔ az_pL C X Q (340, lv, .int (Int32.ofInt (1)) :: st, h) := az_wp_iff
set_option maxRecDepth 20000 in
theorem az_sL_340 {x y : Int32} : az_pL C X Q (340, lv, .int y :: .int x :: st, h) ↔ az_pL C X Q (341, lv, .int (x + y) :: st, h) := az_wp_iff
set_option maxRecDepth 20000 in
theorem az_sL_341 {a : Nat} {i : Int32} : az_pL C X Q (341, lv, .int i :: .ref a :: st, h) ↔ az_mr ((X a).getD (h.1 a)) 0 i.toInt (fun x => az_pL C X Q (342, lv, .int x :: st, h)) := az_wp_iff.trans az_go_ialX
set_option maxRecDepth 20000 in
theorem az_sL_342 : az_pL C X Q (342, lv, st, h) ↔ az_ma (lv 0) (fun x => az_pL C X Q (343, lv, x :: st, h)) := az_wp_iff.trans az_go_lda
set_option maxRecDepth 20000 in
theorem az_sL_343 : az_pL C X Q (343, lv, st, h) ↔ az_mi (lv 3) (fun x => az_pL C X Q (344, lv, .int x :: st, h)) := az_wp_iff.trans az_go_ldi
set_option maxRecDepth 20000 in
theorem az_sL_344 : az_pL C X Q (344, lv, st, h) ↔ az_pL C X Q (345, lv, .int (Int32.ofInt (2)) :: st, h) := az_wp_iff
set_option maxRecDepth 20000 in
theorem az_sL_345 {x y : Int32} : az_pL C X Q (345, lv, .int y :: .int x :: st, h) ↔ az_pL C X Q (346, lv, .int (x + y) :: st, h) := az_wp_iff
set_option maxRecDepth 20000 in
theorem az_sL_346 {a : Nat} {i : Int32} : az_pL C X Q (346, lv, .int i :: .ref a :: st, h) ↔ az_mr ((X a).getD (h.1 a)) 0 i.toInt (fun x => az_pL C X Q (347, lv, .int x :: st, h)) := az_wp_iff.trans az_go_ialX
set_option maxRecDepth 20000 in
theorem az_sL_347 : az_pL C X Q (347, lv, st, h) ↔ az_ma (lv 0) (fun x => az_pL C X Q (348, lv, x :: st, h)) := az_wp_iff.trans az_go_lda
set_option maxRecDepth 20000 in
theorem az_sL_348 : az_pL C X Q (348, lv, st, h) ↔ az_mi (lv 3) (fun x => az_pL C X Q (349, lv, .int x :: st, h)) := az_wp_iff.trans az_go_ldi
set_option maxRecDepth 20000 in
theorem az_sL_349 : az_pL C X Q (349, lv, st, h) ↔ az_pL C X Q (350, lv, .int (Int32.ofInt (3)) :: st, h) := az_wp_iff
set_option maxRecDepth 20000 in
theorem az_sL_350 {x y : Int32} : az_pL C X Q (350, lv, .int y :: .int x :: st, h) ↔ az_pL C X Q (351, lv, .int (x + y) :: st, h) := az_wp_iff
set_option maxRecDepth 20000 in
theorem az_sL_351 {a : Nat} {i : Int32} : az_pL C X Q (351, lv, .int i :: .ref a :: st, h) ↔ az_mr ((X a).getD (h.1 a)) 0 i.toInt (fun x => az_pL C X Q (352, lv, .int x :: st, h)) := az_wp_iff.trans az_go_ialX
set_option maxRecDepth 20000 in
theorem az_sL_352 : az_pL C X Q (352, lv, st, h) ↔ az_ma (lv 0) (fun x => az_pL C X Q (353, lv, x :: st, h)) := az_wp_iff.trans az_go_lda
set_option maxRecDepth 20000 in
theorem az_sL_353 : az_pL C X Q (353, lv, st, h) ↔ az_mi (lv 3) (fun x => az_pL C X Q (354, lv, .int x :: st, h)) := az_wp_iff.trans az_go_ldi
set_option maxRecDepth 20000 in
theorem az_sL_354 : az_pL C X Q (354, lv, st, h) ↔ az_pL C X Q (355, lv, .int (Int32.ofInt (4)) :: st, h) := az_wp_iff
set_option maxRecDepth 20000 in
theorem az_sL_355 {x y : Int32} : az_pL C X Q (355, lv, .int y :: .int x :: st, h) ↔ az_pL C X Q (356, lv, .int (x + y) :: st, h) := az_wp_iff
set_option maxRecDepth 20000 in
theorem az_sL_356 {a : Nat} {i : Int32} : az_pL C X Q (356, lv, .int i :: .ref a :: st, h) ↔ az_mr ((X a).getD (h.1 a)) 0 i.toInt (fun x => az_pL C X Q (357, lv, .int x :: st, h)) := az_wp_iff.trans az_go_ialX
set_option maxRecDepth 20000 in
theorem az_sL_357 : az_pL C X Q (357, lv, st, h) ↔ az_ma (lv 0) (fun x => az_pL C X Q (358, lv, x :: st, h)) := az_wp_iff.trans az_go_lda
set_option maxRecDepth 20000 in
theorem az_sL_358 : az_pL C X Q (358, lv, st, h) ↔ az_mi (lv 3) (fun x => az_pL C X Q (359, lv, .int x :: st, h)) := az_wp_iff.trans az_go_ldi
set_option maxRecDepth 20000 in
theorem az_sL_359 : az_pL C X Q (359, lv, st, h) ↔ az_pL C X Q (360, lv, .int (Int32.ofInt (5)) :: st, h) := az_wp_iff
set_option maxRecDepth 20000 in
theorem az_sL_360 {x y : Int32} : az_pL C X Q (360, lv, .int y :: .int x :: st, h) ↔ az_pL C X Q (361, lv, .int (x + y) :: st, h) := az_wp_iff
set_option maxRecDepth 20000 in
theorem az_sL_361 {a : Nat} {i : Int32} : az_pL C X Q (361, lv, .int i :: .ref a :: st, h) ↔ az_mr ((X a).getD (h.1 a)) 0 i.toInt (fun x => az_pL C X Q (362, lv, .int x :: st, h)) := az_wp_iff.trans az_go_ialX
set_option maxRecDepth 20000 in
theorem az_sL_362 {a : Nat} {v1 v2 v3 v4 v5 : Value} : az_pL C X Q (362, lv, v5 :: v4 :: v3 :: v2 :: v1 :: .ref a :: st, h) ↔ az_isob (h.1 a) 11 = true ∧ az_cat st ≤ 8 ∧ az_mc C 147 [.ref a, v1, v2, v3, v4, v5] h (fun v h' => az_pL C X Q (365, lv, v ++ st, h')) := az_wp_iff.trans (az_go_if.trans (and_congr Iff.rfl az_go_call))
set_option maxRecDepth 20000 in
theorem az_sL_365 {x y : Int32} : az_pL C X Q (365, lv, .int y :: .int x :: st, h) ↔ (x = y → az_pL C X Q (836, lv, st, h)) ∧ (¬ x = y → az_pL C X Q (368, lv, st, h)) := az_wp_iff.trans (az_go_if2 az_d_eq)
set_option maxRecDepth 20000 in
theorem az_sL_368 : az_pL C X Q (368, lv, st, h) ↔ az_pL C X Q (369, lv, .int (Int32.ofInt (0)) :: st, h) := az_wp_iff
set_option maxRecDepth 20000 in
theorem az_sL_369 {x : Int32} : az_pL C X Q (369, lv, [.int x], h) ↔ (x = 0 ∨ x = 1) ∧ Q (some (.int x)) h := az_wp_iff.trans az_go_if
set_option maxRecDepth 20000 in
theorem az_sL_370 : az_pL C X Q (370, lv, st, h) ↔ az_ma (lv 1) (fun x => az_pL C X Q (371, lv, x :: st, h)) := az_wp_iff.trans az_go_lda
set_option maxRecDepth 20000 in
theorem az_sL_371 : az_pL C X Q (371, lv, st, h) ↔ az_ma (lv 0) (fun x => az_pL C X Q (372, lv, x :: st, h)) := az_wp_iff.trans az_go_lda
set_option maxRecDepth 20000 in
theorem az_sL_372 : az_pL C X Q (372, lv, st, h) ↔ az_mi (lv 3) (fun x => az_pL C X Q (373, lv, .int x :: st, h)) := az_wp_iff.trans az_go_ldi
set_option maxRecDepth 20000 in
theorem az_sL_373 : az_pL C X Q (373, lv, st, h) ↔ az_pL C X Q (374, lv, .int (Int32.ofInt (1)) :: st, h) := az_wp_iff
set_option maxRecDepth 20000 in
theorem az_sL_374 {x y : Int32} : az_pL C X Q (374, lv, .int y :: .int x :: st, h) ↔ az_pL C X Q (375, lv, .int (x + y) :: st, h) := az_wp_iff
set_option maxRecDepth 20000 in
theorem az_sL_375 {a : Nat} {i : Int32} : az_pL C X Q (375, lv, .int i :: .ref a :: st, h) ↔ az_mr ((X a).getD (h.1 a)) 0 i.toInt (fun x => az_pL C X Q (376, lv, .int x :: st, h)) := az_wp_iff.trans az_go_ialX
set_option maxRecDepth 20000 in
theorem az_sL_376 : az_pL C X Q (376, lv, st, h) ↔ az_ma (lv 0) (fun x => az_pL C X Q (377, lv, x :: st, h)) := az_wp_iff.trans az_go_lda
set_option maxRecDepth 20000 in
theorem az_sL_377 : az_pL C X Q (377, lv, st, h) ↔ az_mi (lv 3) (fun x => az_pL C X Q (378, lv, .int x :: st, h)) := az_wp_iff.trans az_go_ldi
set_option maxRecDepth 20000 in
theorem az_sL_378 : az_pL C X Q (378, lv, st, h) ↔ az_pL C X Q (379, lv, .int (Int32.ofInt (2)) :: st, h) := az_wp_iff
set_option maxRecDepth 20000 in
theorem az_sL_379 {x y : Int32} : az_pL C X Q (379, lv, .int y :: .int x :: st, h) ↔ az_pL C X Q (380, lv, .int (x + y) :: st, h) := az_wp_iff
set_option maxRecDepth 20000 in
theorem az_sL_380 {a : Nat} {i : Int32} : az_pL C X Q (380, lv, .int i :: .ref a :: st, h) ↔ az_mr ((X a).getD (h.1 a)) 0 i.toInt (fun x => az_pL C X Q (381, lv, .int x :: st, h)) := az_wp_iff.trans az_go_ialX
set_option maxRecDepth 20000 in
theorem az_sL_381 : az_pL C X Q (381, lv, st, h) ↔ az_ma (lv 0) (fun x => az_pL C X Q (382, lv, x :: st, h)) := az_wp_iff.trans az_go_lda
set_option maxRecDepth 20000 in
theorem az_sL_382 : az_pL C X Q (382, lv, st, h) ↔ az_mi (lv 3) (fun x => az_pL C X Q (383, lv, .int x :: st, h)) := az_wp_iff.trans az_go_ldi
set_option maxRecDepth 20000 in
theorem az_sL_383 : az_pL C X Q (383, lv, st, h) ↔ az_pL C X Q (384, lv, .int (Int32.ofInt (3)) :: st, h) := az_wp_iff
set_option maxRecDepth 20000 in
theorem az_sL_384 {x y : Int32} : az_pL C X Q (384, lv, .int y :: .int x :: st, h) ↔ az_pL C X Q (385, lv, .int (x + y) :: st, h) := az_wp_iff
set_option maxRecDepth 20000 in
theorem az_sL_385 {a : Nat} {i : Int32} : az_pL C X Q (385, lv, .int i :: .ref a :: st, h) ↔ az_mr ((X a).getD (h.1 a)) 0 i.toInt (fun x => az_pL C X Q (386, lv, .int x :: st, h)) := az_wp_iff.trans az_go_ialX
set_option maxRecDepth 20000 in
theorem az_sL_386 {a : Nat} {v1 v2 v3 : Value} : az_pL C X Q (386, lv, v3 :: v2 :: v1 :: .ref a :: st, h) ↔ az_isob (h.1 a) 10 = true ∧ az_cat st ≤ 8 ∧ az_mc C 117 [.ref a, v1, v2, v3] h (fun v h' => az_pL C X Q (389, lv, v ++ st, h')) := az_wp_iff.trans (az_go_if.trans (and_congr Iff.rfl az_go_call))
set_option maxRecDepth 20000 in
theorem az_sL_389 : az_pL C X Q (389, lv, st, h) ↔ az_ma (lv 2) (fun x => az_pL C X Q (390, lv, x :: st, h)) := az_wp_iff.trans az_go_lda
set_option maxRecDepth 20000 in
theorem az_sL_390 : az_pL C X Q (390, lv, st, h) ↔ az_ma (lv 0) (fun x => az_pL C X Q (391, lv, x :: st, h)) := az_wp_iff.trans az_go_lda
set_option maxRecDepth 20000 in
theorem az_sL_391 : az_pL C X Q (391, lv, st, h) ↔ az_mi (lv 3) (fun x => az_pL C X Q (392, lv, .int x :: st, h)) := az_wp_iff.trans az_go_ldi
set_option maxRecDepth 20000 in
theorem az_sL_392 : az_pL C X Q (392, lv, st, h) ↔ az_pL C X Q (393, lv, .int (Int32.ofInt (1)) :: st, h) := az_wp_iff
set_option maxRecDepth 20000 in
theorem az_sL_393 {x y : Int32} : az_pL C X Q (393, lv, .int y :: .int x :: st, h) ↔ az_pL C X Q (394, lv, .int (x + y) :: st, h) := az_wp_iff
set_option maxRecDepth 20000 in
theorem az_sL_394 {a : Nat} {i : Int32} : az_pL C X Q (394, lv, .int i :: .ref a :: st, h) ↔ az_mr ((X a).getD (h.1 a)) 0 i.toInt (fun x => az_pL C X Q (395, lv, .int x :: st, h)) := az_wp_iff.trans az_go_ialX
set_option maxRecDepth 20000 in
theorem az_sL_395 : az_pL C X Q (395, lv, st, h) ↔ az_ma (lv 0) (fun x => az_pL C X Q (396, lv, x :: st, h)) := az_wp_iff.trans az_go_lda
set_option maxRecDepth 20000 in
theorem az_sL_396 : az_pL C X Q (396, lv, st, h) ↔ az_mi (lv 3) (fun x => az_pL C X Q (397, lv, .int x :: st, h)) := az_wp_iff.trans az_go_ldi
set_option maxRecDepth 20000 in
theorem az_sL_397 : az_pL C X Q (397, lv, st, h) ↔ az_pL C X Q (398, lv, .int (Int32.ofInt (2)) :: st, h) := az_wp_iff
set_option maxRecDepth 20000 in
theorem az_sL_398 {x y : Int32} : az_pL C X Q (398, lv, .int y :: .int x :: st, h) ↔ az_pL C X Q (399, lv, .int (x + y) :: st, h) := az_wp_iff
set_option maxRecDepth 20000 in
theorem az_sL_399 {a : Nat} {i : Int32} : az_pL C X Q (399, lv, .int i :: .ref a :: st, h) ↔ az_mr ((X a).getD (h.1 a)) 0 i.toInt (fun x => az_pL C X Q (400, lv, .int x :: st, h)) := az_wp_iff.trans az_go_ialX
set_option maxRecDepth 20000 in
theorem az_sL_400 : az_pL C X Q (400, lv, st, h) ↔ az_ma (lv 0) (fun x => az_pL C X Q (401, lv, x :: st, h)) := az_wp_iff.trans az_go_lda
set_option maxRecDepth 20000 in
theorem az_sL_401 : az_pL C X Q (401, lv, st, h) ↔ az_mi (lv 3) (fun x => az_pL C X Q (402, lv, .int x :: st, h)) := az_wp_iff.trans az_go_ldi
set_option maxRecDepth 20000 in
theorem az_sL_402 : az_pL C X Q (402, lv, st, h) ↔ az_pL C X Q (403, lv, .int (Int32.ofInt (3)) :: st, h) := az_wp_iff
set_option maxRecDepth 20000 in
theorem az_sL_403 {x y : Int32} : az_pL C X Q (403, lv, .int y :: .int x :: st, h) ↔ az_pL C X Q (404, lv, .int (x + y) :: st, h) := az_wp_iff
set_option maxRecDepth 20000 in
theorem az_sL_404 {a : Nat} {i : Int32} : az_pL C X Q (404, lv, .int i :: .ref a :: st, h) ↔ az_mr ((X a).getD (h.1 a)) 0 i.toInt (fun x => az_pL C X Q (405, lv, .int x :: st, h)) := az_wp_iff.trans az_go_ialX
set_option maxRecDepth 20000 in
theorem az_sL_405 {a : Nat} {v1 v2 v3 : Value} : az_pL C X Q (405, lv, v3 :: v2 :: v1 :: .ref a :: st, h) ↔ az_isob (h.1 a) 11 = true ∧ az_cat st ≤ 8 ∧ az_mc C 151 [.ref a, v1, v2, v3] h (fun v h' => az_pL C X Q (408, lv, v ++ st, h')) := az_wp_iff.trans (az_go_if.trans (and_congr Iff.rfl az_go_call))
set_option maxRecDepth 20000 in
theorem az_sL_408 {x y : Int32} : az_pL C X Q (408, lv, .int y :: .int x :: st, h) ↔ (x = y → az_pL C X Q (836, lv, st, h)) ∧ (¬ x = y → az_pL C X Q (411, lv, st, h)) := az_wp_iff.trans (az_go_if2 az_d_eq)
set_option maxRecDepth 20000 in
theorem az_sL_411 : az_pL C X Q (411, lv, st, h) ↔ az_pL C X Q (412, lv, .int (Int32.ofInt (0)) :: st, h) := az_wp_iff
set_option maxRecDepth 20000 in
theorem az_sL_412 {x : Int32} : az_pL C X Q (412, lv, [.int x], h) ↔ (x = 0 ∨ x = 1) ∧ Q (some (.int x)) h := az_wp_iff.trans az_go_if
set_option maxRecDepth 20000 in
theorem az_sL_413 : az_pL C X Q (413, lv, st, h) ↔ az_ma (lv 1) (fun x => az_pL C X Q (414, lv, x :: st, h)) := az_wp_iff.trans az_go_lda
set_option maxRecDepth 20000 in
theorem az_sL_414 : az_pL C X Q (414, lv, st, h) ↔ az_ma (lv 0) (fun x => az_pL C X Q (415, lv, x :: st, h)) := az_wp_iff.trans az_go_lda
set_option maxRecDepth 20000 in
theorem az_sL_415 : az_pL C X Q (415, lv, st, h) ↔ az_mi (lv 3) (fun x => az_pL C X Q (416, lv, .int x :: st, h)) := az_wp_iff.trans az_go_ldi
set_option maxRecDepth 20000 in
theorem az_sL_416 : az_pL C X Q (416, lv, st, h) ↔ az_pL C X Q (417, lv, .int (Int32.ofInt (1)) :: st, h) := az_wp_iff
set_option maxRecDepth 20000 in
theorem az_sL_417 {x y : Int32} : az_pL C X Q (417, lv, .int y :: .int x :: st, h) ↔ az_pL C X Q (418, lv, .int (x + y) :: st, h) := az_wp_iff
set_option maxRecDepth 20000 in
theorem az_sL_418 {a : Nat} {i : Int32} : az_pL C X Q (418, lv, .int i :: .ref a :: st, h) ↔ az_mr ((X a).getD (h.1 a)) 0 i.toInt (fun x => az_pL C X Q (419, lv, .int x :: st, h)) := az_wp_iff.trans az_go_ialX
set_option maxRecDepth 20000 in
theorem az_sL_419 : az_pL C X Q (419, lv, st, h) ↔ az_ma (lv 0) (fun x => az_pL C X Q (420, lv, x :: st, h)) := az_wp_iff.trans az_go_lda
set_option maxRecDepth 20000 in
theorem az_sL_420 : az_pL C X Q (420, lv, st, h) ↔ az_mi (lv 3) (fun x => az_pL C X Q (421, lv, .int x :: st, h)) := az_wp_iff.trans az_go_ldi
set_option maxRecDepth 20000 in
theorem az_sL_421 : az_pL C X Q (421, lv, st, h) ↔ az_pL C X Q (422, lv, .int (Int32.ofInt (2)) :: st, h) := az_wp_iff
set_option maxRecDepth 20000 in
theorem az_sL_422 {x y : Int32} : az_pL C X Q (422, lv, .int y :: .int x :: st, h) ↔ az_pL C X Q (423, lv, .int (x + y) :: st, h) := az_wp_iff
set_option maxRecDepth 20000 in
theorem az_sL_423 {a : Nat} {i : Int32} : az_pL C X Q (423, lv, .int i :: .ref a :: st, h) ↔ az_mr ((X a).getD (h.1 a)) 0 i.toInt (fun x => az_pL C X Q (424, lv, .int x :: st, h)) := az_wp_iff.trans az_go_ialX
set_option maxRecDepth 20000 in
theorem az_sL_424 : az_pL C X Q (424, lv, st, h) ↔ az_ma (lv 0) (fun x => az_pL C X Q (425, lv, x :: st, h)) := az_wp_iff.trans az_go_lda
set_option maxRecDepth 20000 in
theorem az_sL_425 : az_pL C X Q (425, lv, st, h) ↔ az_mi (lv 3) (fun x => az_pL C X Q (426, lv, .int x :: st, h)) := az_wp_iff.trans az_go_ldi
set_option maxRecDepth 20000 in
theorem az_sL_426 : az_pL C X Q (426, lv, st, h) ↔ az_pL C X Q (427, lv, .int (Int32.ofInt (3)) :: st, h) := az_wp_iff
set_option maxRecDepth 20000 in
theorem az_sL_427 {x y : Int32} : az_pL C X Q (427, lv, .int y :: .int x :: st, h) ↔ az_pL C X Q (428, lv, .int (x + y) :: st, h) := az_wp_iff
set_option maxRecDepth 20000 in
theorem az_sL_428 {a : Nat} {i : Int32} : az_pL C X Q (428, lv, .int i :: .ref a :: st, h) ↔ az_mr ((X a).getD (h.1 a)) 0 i.toInt (fun x => az_pL C X Q (429, lv, .int x :: st, h)) := az_wp_iff.trans az_go_ialX
set_option maxRecDepth 20000 in
theorem az_sL_429 : az_pL C X Q (429, lv, st, h) ↔ az_ma (lv 0) (fun x => az_pL C X Q (430, lv, x :: st, h)) := az_wp_iff.trans az_go_lda
set_option maxRecDepth 20000 in
theorem az_sL_430 : az_pL C X Q (430, lv, st, h) ↔ az_mi (lv 3) (fun x => az_pL C X Q (431, lv, .int x :: st, h)) := az_wp_iff.trans az_go_ldi
set_option maxRecDepth 20000 in
theorem az_sL_431 : az_pL C X Q (431, lv, st, h) ↔ az_pL C X Q (432, lv, .int (Int32.ofInt (4)) :: st, h) := az_wp_iff
set_option maxRecDepth 20000 in
theorem az_sL_432 {x y : Int32} : az_pL C X Q (432, lv, .int y :: .int x :: st, h) ↔ az_pL C X Q (433, lv, .int (x + y) :: st, h) := az_wp_iff
set_option maxRecDepth 20000 in
theorem az_sL_433 {a : Nat} {i : Int32} : az_pL C X Q (433, lv, .int i :: .ref a :: st, h) ↔ az_mr ((X a).getD (h.1 a)) 0 i.toInt (fun x => az_pL C X Q (434, lv, .int x :: st, h)) := az_wp_iff.trans az_go_ialX
set_option maxRecDepth 20000 in
theorem az_sL_434 {a : Nat} {v1 v2 v3 v4 : Value} : az_pL C X Q (434, lv, v4 :: v3 :: v2 :: v1 :: .ref a :: st, h) ↔ az_isob (h.1 a) 10 = true ∧ az_cat st ≤ 8 ∧ az_mc C 118 [.ref a, v1, v2, v3, v4] h (fun v h' => az_pL C X Q (437, lv, v ++ st, h')) := az_wp_iff.trans (az_go_if.trans (and_congr Iff.rfl az_go_call))
set_option maxRecDepth 20000 in
theorem az_sL_437 : az_pL C X Q (437, lv, st, h) ↔ az_ma (lv 2) (fun x => az_pL C X Q (438, lv, x :: st, h)) := az_wp_iff.trans az_go_lda
set_option maxRecDepth 20000 in
theorem az_sL_438 : az_pL C X Q (438, lv, st, h) ↔ az_ma (lv 0) (fun x => az_pL C X Q (439, lv, x :: st, h)) := az_wp_iff.trans az_go_lda
set_option maxRecDepth 20000 in
theorem az_sL_439 : az_pL C X Q (439, lv, st, h) ↔ az_mi (lv 3) (fun x => az_pL C X Q (440, lv, .int x :: st, h)) := az_wp_iff.trans az_go_ldi
set_option maxRecDepth 20000 in
theorem az_sL_440 : az_pL C X Q (440, lv, st, h) ↔ az_pL C X Q (441, lv, .int (Int32.ofInt (1)) :: st, h) := az_wp_iff
set_option maxRecDepth 20000 in
theorem az_sL_441 {x y : Int32} : az_pL C X Q (441, lv, .int y :: .int x :: st, h) ↔ az_pL C X Q (442, lv, .int (x + y) :: st, h) := az_wp_iff
set_option maxRecDepth 20000 in
theorem az_sL_442 {a : Nat} {i : Int32} : az_pL C X Q (442, lv, .int i :: .ref a :: st, h) ↔ az_mr ((X a).getD (h.1 a)) 0 i.toInt (fun x => az_pL C X Q (443, lv, .int x :: st, h)) := az_wp_iff.trans az_go_ialX
set_option maxRecDepth 20000 in
theorem az_sL_443 : az_pL C X Q (443, lv, st, h) ↔ az_ma (lv 0) (fun x => az_pL C X Q (444, lv, x :: st, h)) := az_wp_iff.trans az_go_lda
set_option maxRecDepth 20000 in
theorem az_sL_444 : az_pL C X Q (444, lv, st, h) ↔ az_mi (lv 3) (fun x => az_pL C X Q (445, lv, .int x :: st, h)) := az_wp_iff.trans az_go_ldi
set_option maxRecDepth 20000 in
theorem az_sL_445 : az_pL C X Q (445, lv, st, h) ↔ az_pL C X Q (446, lv, .int (Int32.ofInt (2)) :: st, h) := az_wp_iff
set_option maxRecDepth 20000 in
theorem az_sL_446 {x y : Int32} : az_pL C X Q (446, lv, .int y :: .int x :: st, h) ↔ az_pL C X Q (447, lv, .int (x + y) :: st, h) := az_wp_iff
set_option maxRecDepth 20000 in
theorem az_sL_447 {a : Nat} {i : Int32} : az_pL C X Q (447, lv, .int i :: .ref a :: st, h) ↔ az_mr ((X a).getD (h.1 a)) 0 i.toInt (fun x => az_pL C X Q (448, lv, .int x :: st, h)) := az_wp_iff.trans az_go_ialX
set_option maxRecDepth 20000 in
theorem az_sL_448 : az_pL C X Q (448, lv, st, h) ↔ az_ma (lv 0) (fun x => az_pL C X Q (449, lv, x :: st, h)) := az_wp_iff.trans az_go_lda
set_option maxRecDepth 20000 in
theorem az_sL_449 : az_pL C X Q (449, lv, st, h) ↔ az_mi (lv 3) (fun x => az_pL C X Q (450, lv, .int x :: st, h)) := az_wp_iff.trans az_go_ldi
set_option maxRecDepth 20000 in
theorem az_sL_450 : az_pL C X Q (450, lv, st, h) ↔ az_pL C X Q (451, lv, .int (Int32.ofInt (3)) :: st, h) := az_wp_iff
set_option maxRecDepth 20000 in
theorem az_sL_451 {x y : Int32} : az_pL C X Q (451, lv, .int y :: .int x :: st, h) ↔ az_pL C X Q (452, lv, .int (x + y) :: st, h) := az_wp_iff
set_option maxRecDepth 20000 in
theorem az_sL_452 {a : Nat} {i : Int32} : az_pL C X Q (452, lv, .int i :: .ref a :: st, h) ↔ az_mr ((X a).getD (h.1 a)) 0 i.toInt (fun x => az_pL C X Q (453, lv, .int x :: st, h)) := az_wp_iff.trans az_go_ialX
set_option maxRecDepth 20000 in
theorem az_sL_453 : az_pL C X Q (453, lv, st, h) ↔ az_ma (lv 0) (fun x => az_pL C X Q (454, lv, x :: st, h)) := az_wp_iff.trans az_go_lda
set_option maxRecDepth 20000 in
theorem az_sL_454 : az_pL C X Q (454, lv, st, h) ↔ az_mi (lv 3) (fun x => az_pL C X Q (455, lv, .int x :: st, h)) := az_wp_iff.trans az_go_ldi
set_option maxRecDepth 20000 in
theorem az_sL_455 : az_pL C X Q (455, lv, st, h) ↔ az_pL C X Q (456, lv, .int (Int32.ofInt (4)) :: st, h) := az_wp_iff
set_option maxRecDepth 20000 in
theorem az_sL_456 {x y : Int32} : az_pL C X Q (456, lv, .int y :: .int x :: st, h) ↔ az_pL C X Q (457, lv, .int (x + y) :: st, h) := az_wp_iff
set_option maxRecDepth 20000 in
theorem az_sL_457 {a : Nat} {i : Int32} : az_pL C X Q (457, lv, .int i :: .ref a :: st, h) ↔ az_mr ((X a).getD (h.1 a)) 0 i.toInt (fun x => az_pL C X Q (458, lv, .int x :: st, h)) := az_wp_iff.trans az_go_ialX
set_option maxRecDepth 20000 in
theorem az_sL_458 {a : Nat} {v1 v2 v3 v4 : Value} : az_pL C X Q (458, lv, v4 :: v3 :: v2 :: v1 :: .ref a :: st, h) ↔ az_isob (h.1 a) 11 = true ∧ az_cat st ≤ 8 ∧ az_mc C 152 [.ref a, v1, v2, v3, v4] h (fun v h' => az_pL C X Q (461, lv, v ++ st, h')) := az_wp_iff.trans (az_go_if.trans (and_congr Iff.rfl az_go_call))
set_option maxRecDepth 20000 in
theorem az_sL_461 {x y : Int32} : az_pL C X Q (461, lv, .int y :: .int x :: st, h) ↔ (x = y → az_pL C X Q (836, lv, st, h)) ∧ (¬ x = y → az_pL C X Q (464, lv, st, h)) := az_wp_iff.trans (az_go_if2 az_d_eq)
set_option maxRecDepth 20000 in
theorem az_sL_464 : az_pL C X Q (464, lv, st, h) ↔ az_pL C X Q (465, lv, .int (Int32.ofInt (0)) :: st, h) := az_wp_iff
set_option maxRecDepth 20000 in
theorem az_sL_465 {x : Int32} : az_pL C X Q (465, lv, [.int x], h) ↔ (x = 0 ∨ x = 1) ∧ Q (some (.int x)) h := az_wp_iff.trans az_go_if
set_option maxRecDepth 20000 in
theorem az_sL_466 : az_pL C X Q (466, lv, st, h) ↔ az_ma (lv 1) (fun x => az_pL C X Q (467, lv, x :: st, h)) := az_wp_iff.trans az_go_lda
set_option maxRecDepth 20000 in
theorem az_sL_467 : az_pL C X Q (467, lv, st, h) ↔ az_ma (lv 0) (fun x => az_pL C X Q (468, lv, x :: st, h)) := az_wp_iff.trans az_go_lda
set_option maxRecDepth 20000 in
theorem az_sL_468 : az_pL C X Q (468, lv, st, h) ↔ az_mi (lv 3) (fun x => az_pL C X Q (469, lv, .int x :: st, h)) := az_wp_iff.trans az_go_ldi
set_option maxRecDepth 20000 in
theorem az_sL_469 : az_pL C X Q (469, lv, st, h) ↔ az_pL C X Q (470, lv, .int (Int32.ofInt (1)) :: st, h) := az_wp_iff
set_option maxRecDepth 20000 in
theorem az_sL_470 {x y : Int32} : az_pL C X Q (470, lv, .int y :: .int x :: st, h) ↔ az_pL C X Q (471, lv, .int (x + y) :: st, h) := az_wp_iff
set_option maxRecDepth 20000 in
theorem az_sL_471 {a : Nat} {i : Int32} : az_pL C X Q (471, lv, .int i :: .ref a :: st, h) ↔ az_mr ((X a).getD (h.1 a)) 0 i.toInt (fun x => az_pL C X Q (472, lv, .int x :: st, h)) := az_wp_iff.trans az_go_ialX
set_option maxRecDepth 20000 in
theorem az_sL_472 {a : Nat} {v1 : Value} : az_pL C X Q (472, lv, v1 :: .ref a :: st, h) ↔ az_isob (h.1 a) 10 = true ∧ az_cat st ≤ 8 ∧ az_mc C 119 [.ref a, v1] h (fun v h' => az_pL C X Q (475, lv, v ++ st, h')) := az_wp_iff.trans (az_go_if.trans (and_congr Iff.rfl az_go_call))
set_option maxRecDepth 20000 in
theorem az_sL_475 : az_pL C X Q (475, lv, st, h) ↔ az_ma (lv 2) (fun x => az_pL C X Q (476, lv, x :: st, h)) := az_wp_iff.trans az_go_lda
set_option maxRecDepth 20000 in
theorem az_sL_476 : az_pL C X Q (476, lv, st, h) ↔ az_ma (lv 0) (fun x => az_pL C X Q (477, lv, x :: st, h)) := az_wp_iff.trans az_go_lda
set_option maxRecDepth 20000 in
theorem az_sL_477 : az_pL C X Q (477, lv, st, h) ↔ az_mi (lv 3) (fun x => az_pL C X Q (478, lv, .int x :: st, h)) := az_wp_iff.trans az_go_ldi
set_option maxRecDepth 20000 in
theorem az_sL_478 : az_pL C X Q (478, lv, st, h) ↔ az_pL C X Q (479, lv, .int (Int32.ofInt (1)) :: st, h) := az_wp_iff
set_option maxRecDepth 20000 in
theorem az_sL_479 {x y : Int32} : az_pL C X Q (479, lv, .int y :: .int x :: st, h) ↔ az_pL C X Q (480, lv, .int (x + y) :: st, h) := az_wp_iff
set_option maxRecDepth 20000 in
theorem az_sL_480 {a : Nat} {i : Int32} : az_pL C X Q (480, lv, .int i :: .ref a :: st, h) ↔ az_mr ((X a).getD (h.1 a)) 0 i.toInt (fun x => az_pL C X Q (481, lv, .int x :: st, h)) := az_wp_iff.trans az_go_ialX
set_option maxRecDepth 20000 in
theorem az_sL_481 {a : Nat} {v1 : Value} : az_pL C X Q (481, lv, v1 :: .ref a :: st, h) ↔ az_isob (h.1 a) 11 = true ∧ az_cat st ≤ 8 ∧ az_mc C 174 [.ref a, v1] h (fun v h' => az_pL C X Q (484, lv, v ++ st, h')) := az_wp_iff.trans (az_go_if.trans (and_congr Iff.rfl az_go_call))
set_option maxRecDepth 20000 in
theorem az_sL_484 {x y : Int32} : az_pL C X Q (484, lv, .int y :: .int x :: st, h) ↔ (x = y → az_pL C X Q (836, lv, st, h)) ∧ (¬ x = y → az_pL C X Q (487, lv, st, h)) := az_wp_iff.trans (az_go_if2 az_d_eq)
set_option maxRecDepth 20000 in
theorem az_sL_487 : az_pL C X Q (487, lv, st, h) ↔ az_pL C X Q (488, lv, .int (Int32.ofInt (0)) :: st, h) := az_wp_iff
set_option maxRecDepth 20000 in
theorem az_sL_488 {x : Int32} : az_pL C X Q (488, lv, [.int x], h) ↔ (x = 0 ∨ x = 1) ∧ Q (some (.int x)) h := az_wp_iff.trans az_go_if
set_option maxRecDepth 20000 in
theorem az_sL_489 : az_pL C X Q (489, lv, st, h) ↔ az_ma (lv 1) (fun x => az_pL C X Q (490, lv, x :: st, h)) := az_wp_iff.trans az_go_lda
set_option maxRecDepth 20000 in
theorem az_sL_490 : az_pL C X Q (490, lv, st, h) ↔ az_ma (lv 0) (fun x => az_pL C X Q (491, lv, x :: st, h)) := az_wp_iff.trans az_go_lda
set_option maxRecDepth 20000 in
theorem az_sL_491 : az_pL C X Q (491, lv, st, h) ↔ az_mi (lv 3) (fun x => az_pL C X Q (492, lv, .int x :: st, h)) := az_wp_iff.trans az_go_ldi
set_option maxRecDepth 20000 in
theorem az_sL_492 : az_pL C X Q (492, lv, st, h) ↔ az_pL C X Q (493, lv, .int (Int32.ofInt (1)) :: st, h) := az_wp_iff
set_option maxRecDepth 20000 in
theorem az_sL_493 {x y : Int32} : az_pL C X Q (493, lv, .int y :: .int x :: st, h) ↔ az_pL C X Q (494, lv, .int (x + y) :: st, h) := az_wp_iff
set_option maxRecDepth 20000 in
theorem az_sL_494 {a : Nat} {i : Int32} : az_pL C X Q (494, lv, .int i :: .ref a :: st, h) ↔ az_mr ((X a).getD (h.1 a)) 0 i.toInt (fun x => az_pL C X Q (495, lv, .int x :: st, h)) := az_wp_iff.trans az_go_ialX
set_option maxRecDepth 20000 in
theorem az_sL_495 {a : Nat} {v1 : Value} : az_pL C X Q (495, lv, v1 :: .ref a :: st, h) ↔ az_isob (h.1 a) 10 = true ∧ az_cat st ≤ 8 ∧ az_mc C 120 [.ref a, v1] h (fun v h' => az_pL C X Q (498, lv, v ++ st, h')) := az_wp_iff.trans (az_go_if.trans (and_congr Iff.rfl az_go_call))
set_option maxRecDepth 20000 in
theorem az_sL_498 : az_pL C X Q (498, lv, st, h) ↔ az_ma (lv 2) (fun x => az_pL C X Q (499, lv, x :: st, h)) := az_wp_iff.trans az_go_lda
set_option maxRecDepth 20000 in
theorem az_sL_499 : az_pL C X Q (499, lv, st, h) ↔ az_ma (lv 0) (fun x => az_pL C X Q (500, lv, x :: st, h)) := az_wp_iff.trans az_go_lda
set_option maxRecDepth 20000 in
theorem az_sL_500 : az_pL C X Q (500, lv, st, h) ↔ az_mi (lv 3) (fun x => az_pL C X Q (501, lv, .int x :: st, h)) := az_wp_iff.trans az_go_ldi
set_option maxRecDepth 20000 in
theorem az_sL_501 : az_pL C X Q (501, lv, st, h) ↔ az_pL C X Q (502, lv, .int (Int32.ofInt (1)) :: st, h) := az_wp_iff
set_option maxRecDepth 20000 in
theorem az_sL_502 {x y : Int32} : az_pL C X Q (502, lv, .int y :: .int x :: st, h) ↔ az_pL C X Q (503, lv, .int (x + y) :: st, h) := az_wp_iff
set_option maxRecDepth 20000 in
theorem az_sL_503 {a : Nat} {i : Int32} : az_pL C X Q (503, lv, .int i :: .ref a :: st, h) ↔ az_mr ((X a).getD (h.1 a)) 0 i.toInt (fun x => az_pL C X Q (504, lv, .int x :: st, h)) := az_wp_iff.trans az_go_ialX
set_option maxRecDepth 20000 in
theorem az_sL_504 {a : Nat} {v1 : Value} : az_pL C X Q (504, lv, v1 :: .ref a :: st, h) ↔ az_isob (h.1 a) 11 = true ∧ az_cat st ≤ 8 ∧ az_mc C 175 [.ref a, v1] h (fun v h' => az_pL C X Q (507, lv, v ++ st, h')) := az_wp_iff.trans (az_go_if.trans (and_congr Iff.rfl az_go_call))
set_option maxRecDepth 20000 in
theorem az_sL_507 {x y : Int32} : az_pL C X Q (507, lv, .int y :: .int x :: st, h) ↔ (x = y → az_pL C X Q (836, lv, st, h)) ∧ (¬ x = y → az_pL C X Q (510, lv, st, h)) := az_wp_iff.trans (az_go_if2 az_d_eq)
set_option maxRecDepth 20000 in
theorem az_sL_510 : az_pL C X Q (510, lv, st, h) ↔ az_pL C X Q (511, lv, .int (Int32.ofInt (0)) :: st, h) := az_wp_iff
set_option maxRecDepth 20000 in
theorem az_sL_511 {x : Int32} : az_pL C X Q (511, lv, [.int x], h) ↔ (x = 0 ∨ x = 1) ∧ Q (some (.int x)) h := az_wp_iff.trans az_go_if
set_option maxRecDepth 20000 in
theorem az_sL_512 : az_pL C X Q (512, lv, st, h) ↔ az_ma (lv 1) (fun x => az_pL C X Q (513, lv, x :: st, h)) := az_wp_iff.trans az_go_lda
set_option maxRecDepth 20000 in
theorem az_sL_513 : az_pL C X Q (513, lv, st, h) ↔ az_ma (lv 0) (fun x => az_pL C X Q (514, lv, x :: st, h)) := az_wp_iff.trans az_go_lda
set_option maxRecDepth 20000 in
theorem az_sL_514 : az_pL C X Q (514, lv, st, h) ↔ az_mi (lv 3) (fun x => az_pL C X Q (515, lv, .int x :: st, h)) := az_wp_iff.trans az_go_ldi
set_option maxRecDepth 20000 in
theorem az_sL_515 : az_pL C X Q (515, lv, st, h) ↔ az_pL C X Q (516, lv, .int (Int32.ofInt (1)) :: st, h) := az_wp_iff
set_option maxRecDepth 20000 in
theorem az_sL_516 {x y : Int32} : az_pL C X Q (516, lv, .int y :: .int x :: st, h) ↔ az_pL C X Q (517, lv, .int (x + y) :: st, h) := az_wp_iff
set_option maxRecDepth 20000 in
theorem az_sL_517 {a : Nat} {i : Int32} : az_pL C X Q (517, lv, .int i :: .ref a :: st, h) ↔ az_mr ((X a).getD (h.1 a)) 0 i.toInt (fun x => az_pL C X Q (518, lv, .int x :: st, h)) := az_wp_iff.trans az_go_ialX
set_option maxRecDepth 20000 in
theorem az_sL_518 : az_pL C X Q (518, lv, st, h) ↔ az_ma (lv 0) (fun x => az_pL C X Q (519, lv, x :: st, h)) := az_wp_iff.trans az_go_lda
set_option maxRecDepth 20000 in
theorem az_sL_519 : az_pL C X Q (519, lv, st, h) ↔ az_mi (lv 3) (fun x => az_pL C X Q (520, lv, .int x :: st, h)) := az_wp_iff.trans az_go_ldi
set_option maxRecDepth 20000 in
theorem az_sL_520 : az_pL C X Q (520, lv, st, h) ↔ az_pL C X Q (521, lv, .int (Int32.ofInt (2)) :: st, h) := az_wp_iff
set_option maxRecDepth 20000 in
theorem az_sL_521 {x y : Int32} : az_pL C X Q (521, lv, .int y :: .int x :: st, h) ↔ az_pL C X Q (522, lv, .int (x + y) :: st, h) := az_wp_iff
set_option maxRecDepth 20000 in
theorem az_sL_522 {a : Nat} {i : Int32} : az_pL C X Q (522, lv, .int i :: .ref a :: st, h) ↔ az_mr ((X a).getD (h.1 a)) 0 i.toInt (fun x => az_pL C X Q (523, lv, .int x :: st, h)) := az_wp_iff.trans az_go_ialX
set_option maxRecDepth 20000 in
theorem az_sL_523 : az_pL C X Q (523, lv, st, h) ↔ az_ma (lv 0) (fun x => az_pL C X Q (524, lv, x :: st, h)) := az_wp_iff.trans az_go_lda
set_option maxRecDepth 20000 in
theorem az_sL_524 : az_pL C X Q (524, lv, st, h) ↔ az_mi (lv 3) (fun x => az_pL C X Q (525, lv, .int x :: st, h)) := az_wp_iff.trans az_go_ldi
set_option maxRecDepth 20000 in
theorem az_sL_525 : az_pL C X Q (525, lv, st, h) ↔ az_pL C X Q (526, lv, .int (Int32.ofInt (3)) :: st, h) := az_wp_iff
set_option maxRecDepth 20000 in
theorem az_sL_526 {x y : Int32} : az_pL C X Q (526, lv, .int y :: .int x :: st, h) ↔ az_pL C X Q (527, lv, .int (x + y) :: st, h) := az_wp_iff
set_option maxRecDepth 20000 in
theorem az_sL_527 {a : Nat} {i : Int32} : az_pL C X Q (527, lv, .int i :: .ref a :: st, h) ↔ az_mr ((X a).getD (h.1 a)) 0 i.toInt (fun x => az_pL C X Q (528, lv, .int x :: st, h)) := az_wp_iff.trans az_go_ialX
set_option maxRecDepth 20000 in
theorem az_sL_528 {a : Nat} {v1 v2 v3 : Value} : az_pL C X Q (528, lv, v3 :: v2 :: v1 :: .ref a :: st, h) ↔ az_isob (h.1 a) 10 = true ∧ az_cat st ≤ 8 ∧ az_mc C 121 [.ref a, v1, v2, v3] h (fun v h' => az_pL C X Q (531, lv, v ++ st, h')) := az_wp_iff.trans (az_go_if.trans (and_congr Iff.rfl az_go_call))
set_option maxRecDepth 20000 in
theorem az_sL_531 : az_pL C X Q (531, lv, st, h) ↔ az_ma (lv 2) (fun x => az_pL C X Q (532, lv, x :: st, h)) := az_wp_iff.trans az_go_lda
set_option maxRecDepth 20000 in
theorem az_sL_532 : az_pL C X Q (532, lv, st, h) ↔ az_ma (lv 0) (fun x => az_pL C X Q (533, lv, x :: st, h)) := az_wp_iff.trans az_go_lda
set_option maxRecDepth 20000 in
theorem az_sL_533 : az_pL C X Q (533, lv, st, h) ↔ az_mi (lv 3) (fun x => az_pL C X Q (534, lv, .int x :: st, h)) := az_wp_iff.trans az_go_ldi
set_option maxRecDepth 20000 in
theorem az_sL_534 : az_pL C X Q (534, lv, st, h) ↔ az_pL C X Q (535, lv, .int (Int32.ofInt (1)) :: st, h) := az_wp_iff
set_option maxRecDepth 20000 in
theorem az_sL_535 {x y : Int32} : az_pL C X Q (535, lv, .int y :: .int x :: st, h) ↔ az_pL C X Q (536, lv, .int (x + y) :: st, h) := az_wp_iff
set_option maxRecDepth 20000 in
theorem az_sL_536 {a : Nat} {i : Int32} : az_pL C X Q (536, lv, .int i :: .ref a :: st, h) ↔ az_mr ((X a).getD (h.1 a)) 0 i.toInt (fun x => az_pL C X Q (537, lv, .int x :: st, h)) := az_wp_iff.trans az_go_ialX
set_option maxRecDepth 20000 in
theorem az_sL_537 : az_pL C X Q (537, lv, st, h) ↔ az_ma (lv 0) (fun x => az_pL C X Q (538, lv, x :: st, h)) := az_wp_iff.trans az_go_lda
set_option maxRecDepth 20000 in
theorem az_sL_538 : az_pL C X Q (538, lv, st, h) ↔ az_mi (lv 3) (fun x => az_pL C X Q (539, lv, .int x :: st, h)) := az_wp_iff.trans az_go_ldi
set_option maxRecDepth 20000 in
theorem az_sL_539 : az_pL C X Q (539, lv, st, h) ↔ az_pL C X Q (540, lv, .int (Int32.ofInt (2)) :: st, h) := az_wp_iff
set_option maxRecDepth 20000 in
theorem az_sL_540 {x y : Int32} : az_pL C X Q (540, lv, .int y :: .int x :: st, h) ↔ az_pL C X Q (541, lv, .int (x + y) :: st, h) := az_wp_iff
set_option maxRecDepth 20000 in
theorem az_sL_541 {a : Nat} {i : Int32} : az_pL C X Q (541, lv, .int i :: .ref a :: st, h) ↔ az_mr ((X a).getD (h.1 a)) 0 i.toInt (fun x => az_pL C X Q (542, lv, .int x :: st, h)) := az_wp_iff.trans az_go_ialX
set_option maxRecDepth 20000 in
theorem az_sL_542 : az_pL C X Q (542, lv, st, h) ↔ az_ma (lv 0) (fun x => az_pL C X Q (543, lv, x :: st, h)) := az_wp_iff.trans az_go_lda
set_option maxRecDepth 20000 in
theorem az_sL_543 : az_pL C X Q (543, lv, st, h) ↔ az_mi (lv 3) (fun x => az_pL C X Q (544, lv, .int x :: st, h)) := az_wp_iff.trans az_go_ldi
set_option maxRecDepth 20000 in
theorem az_sL_544 : az_pL C X Q (544, lv, st, h) ↔ az_pL C X Q (545, lv, .int (Int32.ofInt (3)) :: st, h) := az_wp_iff
set_option maxRecDepth 20000 in
theorem az_sL_545 {x y : Int32} : az_pL C X Q (545, lv, .int y :: .int x :: st, h) ↔ az_pL C X Q (546, lv, .int (x + y) :: st, h) := az_wp_iff
set_option maxRecDepth 20000 in
theorem az_sL_546 {a : Nat} {i : Int32} : az_pL C X Q (546, lv, .int i :: .ref a :: st, h) ↔ az_mr ((X a).getD (h.1 a)) 0 i.toInt (fun x => az_pL C X Q (547, lv, .int x :: st, h)) := az_wp_iff.trans az_go_ialX
set_option maxRecDepth 20000 in
theorem az_sL_547 {a : Nat} {v1 v2 v3 : Value} : az_pL C X Q (547, lv, v3 :: v2 :: v1 :: .ref a :: st, h) ↔ az_isob (h.1 a) 11 = true ∧ az_cat st ≤ 8 ∧ az_mc C 176 [.ref a, v1, v2, v3] h (fun v h' => az_pL C X Q (550, lv, v ++ st, h')) := az_wp_iff.trans (az_go_if.trans (and_congr Iff.rfl az_go_call))
set_option maxRecDepth 20000 in
theorem az_sL_550 {x y : Int32} : az_pL C X Q (550, lv, .int y :: .int x :: st, h) ↔ (x = y → az_pL C X Q (836, lv, st, h)) ∧ (¬ x = y → az_pL C X Q (553, lv, st, h)) := az_wp_iff.trans (az_go_if2 az_d_eq)
set_option maxRecDepth 20000 in
theorem az_sL_553 : az_pL C X Q (553, lv, st, h) ↔ az_pL C X Q (554, lv, .int (Int32.ofInt (0)) :: st, h) := az_wp_iff
set_option maxRecDepth 20000 in
theorem az_sL_554 {x : Int32} : az_pL C X Q (554, lv, [.int x], h) ↔ (x = 0 ∨ x = 1) ∧ Q (some (.int x)) h := az_wp_iff.trans az_go_if
set_option maxRecDepth 20000 in
theorem az_sL_555 : az_pL C X Q (555, lv, st, h) ↔ az_ma (lv 1) (fun x => az_pL C X Q (556, lv, x :: st, h)) := az_wp_iff.trans az_go_lda
set_option maxRecDepth 20000 in
theorem az_sL_556 : az_pL C X Q (556, lv, st, h) ↔ az_ma (lv 0) (fun x => az_pL C X Q (557, lv, x :: st, h)) := az_wp_iff.trans az_go_lda
set_option maxRecDepth 20000 in
theorem az_sL_557 : az_pL C X Q (557, lv, st, h) ↔ az_mi (lv 3) (fun x => az_pL C X Q (558, lv, .int x :: st, h)) := az_wp_iff.trans az_go_ldi
set_option maxRecDepth 20000 in
theorem az_sL_558 : az_pL C X Q (558, lv, st, h) ↔ az_pL C X Q (559, lv, .int (Int32.ofInt (1)) :: st, h) := az_wp_iff
set_option maxRecDepth 20000 in
theorem az_sL_559 {x y : Int32} : az_pL C X Q (559, lv, .int y :: .int x :: st, h) ↔ az_pL C X Q (560, lv, .int (x + y) :: st, h) := az_wp_iff
set_option maxRecDepth 20000 in
theorem az_sL_560 {a : Nat} {i : Int32} : az_pL C X Q (560, lv, .int i :: .ref a :: st, h) ↔ az_mr ((X a).getD (h.1 a)) 0 i.toInt (fun x => az_pL C X Q (561, lv, .int x :: st, h)) := az_wp_iff.trans az_go_ialX
set_option maxRecDepth 20000 in
theorem az_sL_561 : az_pL C X Q (561, lv, st, h) ↔ az_ma (lv 0) (fun x => az_pL C X Q (562, lv, x :: st, h)) := az_wp_iff.trans az_go_lda
set_option maxRecDepth 20000 in
theorem az_sL_562 : az_pL C X Q (562, lv, st, h) ↔ az_mi (lv 3) (fun x => az_pL C X Q (563, lv, .int x :: st, h)) := az_wp_iff.trans az_go_ldi
set_option maxRecDepth 20000 in
theorem az_sL_563 : az_pL C X Q (563, lv, st, h) ↔ az_pL C X Q (564, lv, .int (Int32.ofInt (2)) :: st, h) := az_wp_iff
set_option maxRecDepth 20000 in
theorem az_sL_564 {x y : Int32} : az_pL C X Q (564, lv, .int y :: .int x :: st, h) ↔ az_pL C X Q (565, lv, .int (x + y) :: st, h) := az_wp_iff
set_option maxRecDepth 20000 in
theorem az_sL_565 {a : Nat} {i : Int32} : az_pL C X Q (565, lv, .int i :: .ref a :: st, h) ↔ az_mr ((X a).getD (h.1 a)) 0 i.toInt (fun x => az_pL C X Q (566, lv, .int x :: st, h)) := az_wp_iff.trans az_go_ialX
set_option maxRecDepth 20000 in
theorem az_sL_566 {a : Nat} {v1 v2 : Value} : az_pL C X Q (566, lv, v2 :: v1 :: .ref a :: st, h) ↔ az_isob (h.1 a) 10 = true ∧ az_cat st ≤ 8 ∧ az_mc C 122 [.ref a, v1, v2] h (fun v h' => az_pL C X Q (569, lv, v ++ st, h')) := az_wp_iff.trans (az_go_if.trans (and_congr Iff.rfl az_go_call))
set_option maxRecDepth 20000 in
theorem az_sL_569 : az_pL C X Q (569, lv, st, h) ↔ az_ma (lv 2) (fun x => az_pL C X Q (570, lv, x :: st, h)) := az_wp_iff.trans az_go_lda
set_option maxRecDepth 20000 in
theorem az_sL_570 : az_pL C X Q (570, lv, st, h) ↔ az_ma (lv 0) (fun x => az_pL C X Q (571, lv, x :: st, h)) := az_wp_iff.trans az_go_lda
set_option maxRecDepth 20000 in
theorem az_sL_571 : az_pL C X Q (571, lv, st, h) ↔ az_mi (lv 3) (fun x => az_pL C X Q (572, lv, .int x :: st, h)) := az_wp_iff.trans az_go_ldi
set_option maxRecDepth 20000 in
theorem az_sL_572 : az_pL C X Q (572, lv, st, h) ↔ az_pL C X Q (573, lv, .int (Int32.ofInt (1)) :: st, h) := az_wp_iff
set_option maxRecDepth 20000 in
theorem az_sL_573 {x y : Int32} : az_pL C X Q (573, lv, .int y :: .int x :: st, h) ↔ az_pL C X Q (574, lv, .int (x + y) :: st, h) := az_wp_iff
set_option maxRecDepth 20000 in
theorem az_sL_574 {a : Nat} {i : Int32} : az_pL C X Q (574, lv, .int i :: .ref a :: st, h) ↔ az_mr ((X a).getD (h.1 a)) 0 i.toInt (fun x => az_pL C X Q (575, lv, .int x :: st, h)) := az_wp_iff.trans az_go_ialX
set_option maxRecDepth 20000 in
theorem az_sL_575 : az_pL C X Q (575, lv, st, h) ↔ az_ma (lv 0) (fun x => az_pL C X Q (576, lv, x :: st, h)) := az_wp_iff.trans az_go_lda
set_option maxRecDepth 20000 in
theorem az_sL_576 : az_pL C X Q (576, lv, st, h) ↔ az_mi (lv 3) (fun x => az_pL C X Q (577, lv, .int x :: st, h)) := az_wp_iff.trans az_go_ldi
set_option maxRecDepth 20000 in
theorem az_sL_577 : az_pL C X Q (577, lv, st, h) ↔ az_pL C X Q (578, lv, .int (Int32.ofInt (2)) :: st, h) := az_wp_iff
set_option maxRecDepth 20000 in
theorem az_sL_578 {x y : Int32} : az_pL C X Q (578, lv, .int y :: .int x :: st, h) ↔ az_pL C X Q (579, lv, .int (x + y) :: st, h) := az_wp_iff
set_option maxRecDepth 20000 in
theorem az_sL_579 {a : Nat} {i : Int32} : az_pL C X Q (579, lv, .int i :: .ref a :: st, h) ↔ az_mr ((X a).getD (h.1 a)) 0 i.toInt (fun x => az_pL C X Q (580, lv, .int x :: st, h)) := az_wp_iff.trans az_go_ialX
set_option maxRecDepth 20000 in
theorem az_sL_580 {a : Nat} {v1 v2 : Value} : az_pL C X Q (580, lv, v2 :: v1 :: .ref a :: st, h) ↔ az_isob (h.1 a) 11 = true ∧ az_cat st ≤ 8 ∧ az_mc C 178 [.ref a, v1, v2] h (fun v h' => az_pL C X Q (583, lv, v ++ st, h')) := az_wp_iff.trans (az_go_if.trans (and_congr Iff.rfl az_go_call))
set_option maxRecDepth 20000 in
theorem az_sL_583 {x y : Int32} : az_pL C X Q (583, lv, .int y :: .int x :: st, h) ↔ (x = y → az_pL C X Q (836, lv, st, h)) ∧ (¬ x = y → az_pL C X Q (586, lv, st, h)) := az_wp_iff.trans (az_go_if2 az_d_eq)
set_option maxRecDepth 20000 in
theorem az_sL_586 : az_pL C X Q (586, lv, st, h) ↔ az_pL C X Q (587, lv, .int (Int32.ofInt (0)) :: st, h) := az_wp_iff
set_option maxRecDepth 20000 in
theorem az_sL_587 {x : Int32} : az_pL C X Q (587, lv, [.int x], h) ↔ (x = 0 ∨ x = 1) ∧ Q (some (.int x)) h := az_wp_iff.trans az_go_if
set_option maxRecDepth 20000 in
theorem az_sL_588 : az_pL C X Q (588, lv, st, h) ↔ az_ma (lv 1) (fun x => az_pL C X Q (589, lv, x :: st, h)) := az_wp_iff.trans az_go_lda
set_option maxRecDepth 20000 in
theorem az_sL_589 : az_pL C X Q (589, lv, st, h) ↔ az_ma (lv 0) (fun x => az_pL C X Q (590, lv, x :: st, h)) := az_wp_iff.trans az_go_lda
set_option maxRecDepth 20000 in
theorem az_sL_590 : az_pL C X Q (590, lv, st, h) ↔ az_mi (lv 3) (fun x => az_pL C X Q (591, lv, .int x :: st, h)) := az_wp_iff.trans az_go_ldi
set_option maxRecDepth 20000 in
theorem az_sL_591 : az_pL C X Q (591, lv, st, h) ↔ az_pL C X Q (592, lv, .int (Int32.ofInt (1)) :: st, h) := az_wp_iff
set_option maxRecDepth 20000 in
theorem az_sL_592 {x y : Int32} : az_pL C X Q (592, lv, .int y :: .int x :: st, h) ↔ az_pL C X Q (593, lv, .int (x + y) :: st, h) := az_wp_iff
set_option maxRecDepth 20000 in
theorem az_sL_593 {a : Nat} {i : Int32} : az_pL C X Q (593, lv, .int i :: .ref a :: st, h) ↔ az_mr ((X a).getD (h.1 a)) 0 i.toInt (fun x => az_pL C X Q (594, lv, .int x :: st, h)) := az_wp_iff.trans az_go_ialX
set_option maxRecDepth 20000 in
theorem az_sL_594 : az_pL C X Q (594, lv, st, h) ↔ az_ma (lv 0) (fun x => az_pL C X Q (595, lv, x :: st, h)) := az_wp_iff.trans az_go_lda
set_option maxRecDepth 20000 in
theorem az_sL_595 : az_pL C X Q (595, lv, st, h) ↔ az_mi (lv 3) (fun x => az_pL C X Q (596, lv, .int x :: st, h)) := az_wp_iff.trans az_go_ldi
set_option maxRecDepth 20000 in
theorem az_sL_596 : az_pL C X Q (596, lv, st, h) ↔ az_pL C X Q (597, lv, .int (Int32.ofInt (2)) :: st, h) := az_wp_iff
set_option maxRecDepth 20000 in
theorem az_sL_597 {x y : Int32} : az_pL C X Q (597, lv, .int y :: .int x :: st, h) ↔ az_pL C X Q (598, lv, .int (x + y) :: st, h) := az_wp_iff
set_option maxRecDepth 20000 in
theorem az_sL_598 {a : Nat} {i : Int32} : az_pL C X Q (598, lv, .int i :: .ref a :: st, h) ↔ az_mr ((X a).getD (h.1 a)) 0 i.toInt (fun x => az_pL C X Q (599, lv, .int x :: st, h)) := az_wp_iff.trans az_go_ialX
set_option maxRecDepth 20000 in
theorem az_sL_599 : az_pL C X Q (599, lv, st, h) ↔ az_ma (lv 0) (fun x => az_pL C X Q (600, lv, x :: st, h)) := az_wp_iff.trans az_go_lda
set_option maxRecDepth 20000 in
theorem az_sL_600 : az_pL C X Q (600, lv, st, h) ↔ az_mi (lv 3) (fun x => az_pL C X Q (601, lv, .int x :: st, h)) := az_wp_iff.trans az_go_ldi
set_option maxRecDepth 20000 in
theorem az_sL_601 : az_pL C X Q (601, lv, st, h) ↔ az_pL C X Q (602, lv, .int (Int32.ofInt (3)) :: st, h) := az_wp_iff
set_option maxRecDepth 20000 in
theorem az_sL_602 {x y : Int32} : az_pL C X Q (602, lv, .int y :: .int x :: st, h) ↔ az_pL C X Q (603, lv, .int (x + y) :: st, h) := az_wp_iff
set_option maxRecDepth 20000 in
theorem az_sL_603 {a : Nat} {i : Int32} : az_pL C X Q (603, lv, .int i :: .ref a :: st, h) ↔ az_mr ((X a).getD (h.1 a)) 0 i.toInt (fun x => az_pL C X Q (604, lv, .int x :: st, h)) := az_wp_iff.trans az_go_ialX
set_option maxRecDepth 20000 in
theorem az_sL_604 {a : Nat} {v1 v2 v3 : Value} : az_pL C X Q (604, lv, v3 :: v2 :: v1 :: .ref a :: st, h) ↔ az_isob (h.1 a) 10 = true ∧ az_cat st ≤ 8 ∧ az_mc C 123 [.ref a, v1, v2, v3] h (fun v h' => az_pL C X Q (607, lv, v ++ st, h')) := az_wp_iff.trans (az_go_if.trans (and_congr Iff.rfl az_go_call))
set_option maxRecDepth 20000 in
theorem az_sL_607 : az_pL C X Q (607, lv, st, h) ↔ az_ma (lv 2) (fun x => az_pL C X Q (608, lv, x :: st, h)) := az_wp_iff.trans az_go_lda
set_option maxRecDepth 20000 in
theorem az_sL_608 : az_pL C X Q (608, lv, st, h) ↔ az_ma (lv 0) (fun x => az_pL C X Q (609, lv, x :: st, h)) := az_wp_iff.trans az_go_lda
set_option maxRecDepth 20000 in
theorem az_sL_609 : az_pL C X Q (609, lv, st, h) ↔ az_mi (lv 3) (fun x => az_pL C X Q (610, lv, .int x :: st, h)) := az_wp_iff.trans az_go_ldi
set_option maxRecDepth 20000 in
theorem az_sL_610 : az_pL C X Q (610, lv, st, h) ↔ az_pL C X Q (611, lv, .int (Int32.ofInt (1)) :: st, h) := az_wp_iff
set_option maxRecDepth 20000 in
theorem az_sL_611 {x y : Int32} : az_pL C X Q (611, lv, .int y :: .int x :: st, h) ↔ az_pL C X Q (612, lv, .int (x + y) :: st, h) := az_wp_iff
set_option maxRecDepth 20000 in
theorem az_sL_612 {a : Nat} {i : Int32} : az_pL C X Q (612, lv, .int i :: .ref a :: st, h) ↔ az_mr ((X a).getD (h.1 a)) 0 i.toInt (fun x => az_pL C X Q (613, lv, .int x :: st, h)) := az_wp_iff.trans az_go_ialX
set_option maxRecDepth 20000 in
theorem az_sL_613 : az_pL C X Q (613, lv, st, h) ↔ az_ma (lv 0) (fun x => az_pL C X Q (614, lv, x :: st, h)) := az_wp_iff.trans az_go_lda
set_option maxRecDepth 20000 in
theorem az_sL_614 : az_pL C X Q (614, lv, st, h) ↔ az_mi (lv 3) (fun x => az_pL C X Q (615, lv, .int x :: st, h)) := az_wp_iff.trans az_go_ldi
set_option maxRecDepth 20000 in
theorem az_sL_615 : az_pL C X Q (615, lv, st, h) ↔ az_pL C X Q (616, lv, .int (Int32.ofInt (2)) :: st, h) := az_wp_iff
set_option maxRecDepth 20000 in
theorem az_sL_616 {x y : Int32} : az_pL C X Q (616, lv, .int y :: .int x :: st, h) ↔ az_pL C X Q (617, lv, .int (x + y) :: st, h) := az_wp_iff
set_option maxRecDepth 20000 in
theorem az_sL_617 {a : Nat} {i : Int32} : az_pL C X Q (617, lv, .int i :: .ref a :: st, h) ↔ az_mr ((X a).getD (h.1 a)) 0 i.toInt (fun x => az_pL C X Q (618, lv, .int x :: st, h)) := az_wp_iff.trans az_go_ialX
set_option maxRecDepth 20000 in
theorem az_sL_618 : az_pL C X Q (618, lv, st, h) ↔ az_ma (lv 0) (fun x => az_pL C X Q (619, lv, x :: st, h)) := az_wp_iff.trans az_go_lda
set_option maxRecDepth 20000 in
theorem az_sL_619 : az_pL C X Q (619, lv, st, h) ↔ az_mi (lv 3) (fun x => az_pL C X Q (620, lv, .int x :: st, h)) := az_wp_iff.trans az_go_ldi
set_option maxRecDepth 20000 in
theorem az_sL_620 : az_pL C X Q (620, lv, st, h) ↔ az_pL C X Q (621, lv, .int (Int32.ofInt (3)) :: st, h) := az_wp_iff
set_option maxRecDepth 20000 in
theorem az_sL_621 {x y : Int32} : az_pL C X Q (621, lv, .int y :: .int x :: st, h) ↔ az_pL C X Q (622, lv, .int (x + y) :: st, h) := az_wp_iff
set_option maxRecDepth 20000 in
theorem az_sL_622 {a : Nat} {i : Int32} : az_pL C X Q (622, lv, .int i :: .ref a :: st, h) ↔ az_mr ((X a).getD (h.1 a)) 0 i.toInt (fun x => az_pL C X Q (623, lv, .int x :: st, h)) := az_wp_iff.trans az_go_ialX
set_option maxRecDepth 20000 in
theorem az_sL_623 {a : Nat} {v1 v2 v3 : Value} : az_pL C X Q (623, lv, v3 :: v2 :: v1 :: .ref a :: st, h) ↔ az_isob (h.1 a) 11 = true ∧ az_cat st ≤ 8 ∧ az_mc C 179 [.ref a, v1, v2, v3] h (fun v h' => az_pL C X Q (626, lv, v ++ st, h')) := az_wp_iff.trans (az_go_if.trans (and_congr Iff.rfl az_go_call))
set_option maxRecDepth 20000 in
theorem az_sL_626 {x y : Int32} : az_pL C X Q (626, lv, .int y :: .int x :: st, h) ↔ (x = y → az_pL C X Q (836, lv, st, h)) ∧ (¬ x = y → az_pL C X Q (629, lv, st, h)) := az_wp_iff.trans (az_go_if2 az_d_eq)
set_option maxRecDepth 20000 in
theorem az_sL_629 : az_pL C X Q (629, lv, st, h) ↔ az_pL C X Q (630, lv, .int (Int32.ofInt (0)) :: st, h) := az_wp_iff
set_option maxRecDepth 20000 in
theorem az_sL_630 {x : Int32} : az_pL C X Q (630, lv, [.int x], h) ↔ (x = 0 ∨ x = 1) ∧ Q (some (.int x)) h := az_wp_iff.trans az_go_if
set_option maxRecDepth 20000 in
theorem az_sL_631 : az_pL C X Q (631, lv, st, h) ↔ az_ma (lv 1) (fun x => az_pL C X Q (632, lv, x :: st, h)) := az_wp_iff.trans az_go_lda
set_option maxRecDepth 20000 in
theorem az_sL_632 : az_pL C X Q (632, lv, st, h) ↔ az_ma (lv 0) (fun x => az_pL C X Q (633, lv, x :: st, h)) := az_wp_iff.trans az_go_lda
set_option maxRecDepth 20000 in
theorem az_sL_633 : az_pL C X Q (633, lv, st, h) ↔ az_mi (lv 3) (fun x => az_pL C X Q (634, lv, .int x :: st, h)) := az_wp_iff.trans az_go_ldi
set_option maxRecDepth 20000 in
theorem az_sL_634 : az_pL C X Q (634, lv, st, h) ↔ az_pL C X Q (635, lv, .int (Int32.ofInt (1)) :: st, h) := az_wp_iff
set_option maxRecDepth 20000 in
theorem az_sL_635 {x y : Int32} : az_pL C X Q (635, lv, .int y :: .int x :: st, h) ↔ az_pL C X Q (636, lv, .int (x + y) :: st, h) := az_wp_iff
set_option maxRecDepth 20000 in
theorem az_sL_636 {a : Nat} {i : Int32} : az_pL C X Q (636, lv, .int i :: .ref a :: st, h) ↔ az_mr ((X a).getD (h.1 a)) 0 i.toInt (fun x => az_pL C X Q (637, lv, .int x :: st, h)) := az_wp_iff.trans az_go_ialX
set_option maxRecDepth 20000 in
theorem az_sL_637 : az_pL C X Q (637, lv, st, h) ↔ az_ma (lv 0) (fun x => az_pL C X Q (638, lv, x :: st, h)) := az_wp_iff.trans az_go_lda
set_option maxRecDepth 20000 in
theorem az_sL_638 : az_pL C X Q (638, lv, st, h) ↔ az_mi (lv 3) (fun x => az_pL C X Q (639, lv, .int x :: st, h)) := az_wp_iff.trans az_go_ldi
set_option maxRecDepth 20000 in
theorem az_sL_639 : az_pL C X Q (639, lv, st, h) ↔ az_pL C X Q (640, lv, .int (Int32.ofInt (2)) :: st, h) := az_wp_iff
set_option maxRecDepth 20000 in
theorem az_sL_640 {x y : Int32} : az_pL C X Q (640, lv, .int y :: .int x :: st, h) ↔ az_pL C X Q (641, lv, .int (x + y) :: st, h) := az_wp_iff
set_option maxRecDepth 20000 in
theorem az_sL_641 {a : Nat} {i : Int32} : az_pL C X Q (641, lv, .int i :: .ref a :: st, h) ↔ az_mr ((X a).getD (h.1 a)) 0 i.toInt (fun x => az_pL C X Q (642, lv, .int x :: st, h)) := az_wp_iff.trans az_go_ialX
set_option maxRecDepth 20000 in
theorem az_sL_642 {a : Nat} {v1 v2 : Value} : az_pL C X Q (642, lv, v2 :: v1 :: .ref a :: st, h) ↔ az_isob (h.1 a) 10 = true ∧ az_cat st ≤ 8 ∧ az_mc C 124 [.ref a, v1, v2] h (fun v h' => az_pL C X Q (645, lv, v ++ st, h')) := az_wp_iff.trans (az_go_if.trans (and_congr Iff.rfl az_go_call))
set_option maxRecDepth 20000 in
theorem az_sL_645 : az_pL C X Q (645, lv, st, h) ↔ az_ma (lv 2) (fun x => az_pL C X Q (646, lv, x :: st, h)) := az_wp_iff.trans az_go_lda
set_option maxRecDepth 20000 in
theorem az_sL_646 : az_pL C X Q (646, lv, st, h) ↔ az_ma (lv 0) (fun x => az_pL C X Q (647, lv, x :: st, h)) := az_wp_iff.trans az_go_lda
set_option maxRecDepth 20000 in
theorem az_sL_647 : az_pL C X Q (647, lv, st, h) ↔ az_mi (lv 3) (fun x => az_pL C X Q (648, lv, .int x :: st, h)) := az_wp_iff.trans az_go_ldi
set_option maxRecDepth 20000 in
theorem az_sL_648 : az_pL C X Q (648, lv, st, h) ↔ az_pL C X Q (649, lv, .int (Int32.ofInt (1)) :: st, h) := az_wp_iff
set_option maxRecDepth 20000 in
theorem az_sL_649 {x y : Int32} : az_pL C X Q (649, lv, .int y :: .int x :: st, h) ↔ az_pL C X Q (650, lv, .int (x + y) :: st, h) := az_wp_iff
set_option maxRecDepth 20000 in
theorem az_sL_650 {a : Nat} {i : Int32} : az_pL C X Q (650, lv, .int i :: .ref a :: st, h) ↔ az_mr ((X a).getD (h.1 a)) 0 i.toInt (fun x => az_pL C X Q (651, lv, .int x :: st, h)) := az_wp_iff.trans az_go_ialX
set_option maxRecDepth 20000 in
theorem az_sL_651 : az_pL C X Q (651, lv, st, h) ↔ az_ma (lv 0) (fun x => az_pL C X Q (652, lv, x :: st, h)) := az_wp_iff.trans az_go_lda
set_option maxRecDepth 20000 in
theorem az_sL_652 : az_pL C X Q (652, lv, st, h) ↔ az_mi (lv 3) (fun x => az_pL C X Q (653, lv, .int x :: st, h)) := az_wp_iff.trans az_go_ldi
set_option maxRecDepth 20000 in
theorem az_sL_653 : az_pL C X Q (653, lv, st, h) ↔ az_pL C X Q (654, lv, .int (Int32.ofInt (2)) :: st, h) := az_wp_iff
set_option maxRecDepth 20000 in
theorem az_sL_654 {x y : Int32} : az_pL C X Q (654, lv, .int y :: .int x :: st, h) ↔ az_pL C X Q (655, lv, .int (x + y) :: st, h) := az_wp_iff
set_option maxRecDepth 20000 in
theorem az_sL_655 {a : Nat} {i : Int32} : az_pL C X Q (655, lv, .int i :: .ref a :: st, h) ↔ az_mr ((X a).getD (h.1 a)) 0 i.toInt (fun x => az_pL C X Q (656, lv, .int x :: st, h)) := az_wp_iff.trans az_go_ialX
set_option maxRecDepth 20000 in
theorem az_sL_656 {a : Nat} {v1 v2 : Value} : az_pL C X Q (656, lv, v2 :: v1 :: .ref a :: st, h) ↔ az_isob (h.1 a) 11 = true ∧ az_cat st ≤ 8 ∧ az_mc C 180 [.ref a, v1, v2] h (fun v h' => az_pL C X Q (659, lv, v ++ st, h')) := az_wp_iff.trans (az_go_if.trans (and_congr Iff.rfl az_go_call))
set_option maxRecDepth 20000 in
theorem az_sL_659 {x y : Int32} : az_pL C X Q (659, lv, .int y :: .int x :: st, h) ↔ (x = y → az_pL C X Q (836, lv, st, h)) ∧ (¬ x = y → az_pL C X Q (662, lv, st, h)) := az_wp_iff.trans (az_go_if2 az_d_eq)
set_option maxRecDepth 20000 in
theorem az_sL_662 : az_pL C X Q (662, lv, st, h) ↔ az_pL C X Q (663, lv, .int (Int32.ofInt (0)) :: st, h) := az_wp_iff
set_option maxRecDepth 20000 in
theorem az_sL_663 {x : Int32} : az_pL C X Q (663, lv, [.int x], h) ↔ (x = 0 ∨ x = 1) ∧ Q (some (.int x)) h := az_wp_iff.trans az_go_if
set_option maxRecDepth 20000 in
theorem az_sL_664 : az_pL C X Q (664, lv, st, h) ↔ az_ma (lv 1) (fun x => az_pL C X Q (665, lv, x :: st, h)) := az_wp_iff.trans az_go_lda
set_option maxRecDepth 20000 in
theorem az_sL_665 : az_pL C X Q (665, lv, st, h) ↔ az_ma (lv 0) (fun x => az_pL C X Q (666, lv, x :: st, h)) := az_wp_iff.trans az_go_lda
set_option maxRecDepth 20000 in
theorem az_sL_666 : az_pL C X Q (666, lv, st, h) ↔ az_mi (lv 3) (fun x => az_pL C X Q (667, lv, .int x :: st, h)) := az_wp_iff.trans az_go_ldi
set_option maxRecDepth 20000 in
theorem az_sL_667 : az_pL C X Q (667, lv, st, h) ↔ az_pL C X Q (668, lv, .int (Int32.ofInt (1)) :: st, h) := az_wp_iff
set_option maxRecDepth 20000 in
theorem az_sL_668 {x y : Int32} : az_pL C X Q (668, lv, .int y :: .int x :: st, h) ↔ az_pL C X Q (669, lv, .int (x + y) :: st, h) := az_wp_iff
set_option maxRecDepth 20000 in
theorem az_sL_669 {a : Nat} {i : Int32} : az_pL C X Q (669, lv, .int i :: .ref a :: st, h) ↔ az_mr ((X a).getD (h.1 a)) 0 i.toInt (fun x => az_pL C X Q (670, lv, .int x :: st, h)) := az_wp_iff.trans az_go_ialX
set_option maxRecDepth 20000 in
theorem az_sL_670 : az_pL C X Q (670, lv, st, h) ↔ az_ma (lv 0) (fun x => az_pL C X Q (671, lv, x :: st, h)) := az_wp_iff.trans az_go_lda
set_option maxRecDepth 20000 in
theorem az_sL_671 : az_pL C X Q (671, lv, st, h) ↔ az_mi (lv 3) (fun x => az_pL C X Q (672, lv, .int x :: st, h)) := az_wp_iff.trans az_go_ldi
set_option maxRecDepth 20000 in
theorem az_sL_672 : az_pL C X Q (672, lv, st, h) ↔ az_pL C X Q (673, lv, .int (Int32.ofInt (2)) :: st, h) := az_wp_iff
set_option maxRecDepth 20000 in
theorem az_sL_673 {x y : Int32} : az_pL C X Q (673, lv, .int y :: .int x :: st, h) ↔ az_pL C X Q (674, lv, .int (x + y) :: st, h) := az_wp_iff
set_option maxRecDepth 20000 in
theorem az_sL_674 {a : Nat} {i : Int32} : az_pL C X Q (674, lv, .int i :: .ref a :: st, h) ↔ az_mr ((X a).getD (h.1 a)) 0 i.toInt (fun x => az_pL C X Q (675, lv, .int x :: st, h)) := az_wp_iff.trans az_go_ialX
set_option maxRecDepth 20000 in
theorem az_sL_675 {a : Nat} {v1 v2 : Value} : az_pL C X Q (675, lv, v2 :: v1 :: .ref a :: st, h) ↔ az_isob (h.1 a) 10 = true ∧ az_cat st ≤ 8 ∧ az_mc C 125 [.ref a, v1, v2] h (fun v h' => az_pL C X Q (678, lv, v ++ st, h')) := az_wp_iff.trans (az_go_if.trans (and_congr Iff.rfl az_go_call))
set_option maxRecDepth 20000 in
theorem az_sL_678 : az_pL C X Q (678, lv, st, h) ↔ az_ma (lv 2) (fun x => az_pL C X Q (679, lv, x :: st, h)) := az_wp_iff.trans az_go_lda
set_option maxRecDepth 20000 in
theorem az_sL_679 : az_pL C X Q (679, lv, st, h) ↔ az_ma (lv 0) (fun x => az_pL C X Q (680, lv, x :: st, h)) := az_wp_iff.trans az_go_lda
set_option maxRecDepth 20000 in
theorem az_sL_680 : az_pL C X Q (680, lv, st, h) ↔ az_mi (lv 3) (fun x => az_pL C X Q (681, lv, .int x :: st, h)) := az_wp_iff.trans az_go_ldi
set_option maxRecDepth 20000 in
theorem az_sL_681 : az_pL C X Q (681, lv, st, h) ↔ az_pL C X Q (682, lv, .int (Int32.ofInt (1)) :: st, h) := az_wp_iff
set_option maxRecDepth 20000 in
theorem az_sL_682 {x y : Int32} : az_pL C X Q (682, lv, .int y :: .int x :: st, h) ↔ az_pL C X Q (683, lv, .int (x + y) :: st, h) := az_wp_iff
set_option maxRecDepth 20000 in
theorem az_sL_683 {a : Nat} {i : Int32} : az_pL C X Q (683, lv, .int i :: .ref a :: st, h) ↔ az_mr ((X a).getD (h.1 a)) 0 i.toInt (fun x => az_pL C X Q (684, lv, .int x :: st, h)) := az_wp_iff.trans az_go_ialX
set_option maxRecDepth 20000 in
theorem az_sL_684 : az_pL C X Q (684, lv, st, h) ↔ az_ma (lv 0) (fun x => az_pL C X Q (685, lv, x :: st, h)) := az_wp_iff.trans az_go_lda
set_option maxRecDepth 20000 in
theorem az_sL_685 : az_pL C X Q (685, lv, st, h) ↔ az_mi (lv 3) (fun x => az_pL C X Q (686, lv, .int x :: st, h)) := az_wp_iff.trans az_go_ldi
set_option maxRecDepth 20000 in
theorem az_sL_686 : az_pL C X Q (686, lv, st, h) ↔ az_pL C X Q (687, lv, .int (Int32.ofInt (2)) :: st, h) := az_wp_iff
set_option maxRecDepth 20000 in
theorem az_sL_687 {x y : Int32} : az_pL C X Q (687, lv, .int y :: .int x :: st, h) ↔ az_pL C X Q (688, lv, .int (x + y) :: st, h) := az_wp_iff
set_option maxRecDepth 20000 in
theorem az_sL_688 {a : Nat} {i : Int32} : az_pL C X Q (688, lv, .int i :: .ref a :: st, h) ↔ az_mr ((X a).getD (h.1 a)) 0 i.toInt (fun x => az_pL C X Q (689, lv, .int x :: st, h)) := az_wp_iff.trans az_go_ialX
set_option maxRecDepth 20000 in
theorem az_sL_689 {a : Nat} {v1 v2 : Value} : az_pL C X Q (689, lv, v2 :: v1 :: .ref a :: st, h) ↔ az_isob (h.1 a) 11 = true ∧ az_cat st ≤ 8 ∧ az_mc C 181 [.ref a, v1, v2] h (fun v h' => az_pL C X Q (692, lv, v ++ st, h')) := az_wp_iff.trans (az_go_if.trans (and_congr Iff.rfl az_go_call))
set_option maxRecDepth 20000 in
theorem az_sL_692 {x y : Int32} : az_pL C X Q (692, lv, .int y :: .int x :: st, h) ↔ (x = y → az_pL C X Q (836, lv, st, h)) ∧ (¬ x = y → az_pL C X Q (695, lv, st, h)) := az_wp_iff.trans (az_go_if2 az_d_eq)
set_option maxRecDepth 20000 in
theorem az_sL_695 : az_pL C X Q (695, lv, st, h) ↔ az_pL C X Q (696, lv, .int (Int32.ofInt (0)) :: st, h) := az_wp_iff
set_option maxRecDepth 20000 in
theorem az_sL_696 {x : Int32} : az_pL C X Q (696, lv, [.int x], h) ↔ (x = 0 ∨ x = 1) ∧ Q (some (.int x)) h := az_wp_iff.trans az_go_if
set_option maxRecDepth 20000 in
theorem az_sL_697 : az_pL C X Q (697, lv, st, h) ↔ az_ma (lv 1) (fun x => az_pL C X Q (698, lv, x :: st, h)) := az_wp_iff.trans az_go_lda
set_option maxRecDepth 20000 in
theorem az_sL_698 : az_pL C X Q (698, lv, st, h) ↔ az_ma (lv 0) (fun x => az_pL C X Q (699, lv, x :: st, h)) := az_wp_iff.trans az_go_lda
set_option maxRecDepth 20000 in
theorem az_sL_699 : az_pL C X Q (699, lv, st, h) ↔ az_mi (lv 3) (fun x => az_pL C X Q (700, lv, .int x :: st, h)) := az_wp_iff.trans az_go_ldi
set_option maxRecDepth 20000 in
theorem az_sL_700 : az_pL C X Q (700, lv, st, h) ↔ az_pL C X Q (701, lv, .int (Int32.ofInt (1)) :: st, h) := az_wp_iff
set_option maxRecDepth 20000 in
theorem az_sL_701 {x y : Int32} : az_pL C X Q (701, lv, .int y :: .int x :: st, h) ↔ az_pL C X Q (702, lv, .int (x + y) :: st, h) := az_wp_iff
set_option maxRecDepth 20000 in
theorem az_sL_702 {a : Nat} {i : Int32} : az_pL C X Q (702, lv, .int i :: .ref a :: st, h) ↔ az_mr ((X a).getD (h.1 a)) 0 i.toInt (fun x => az_pL C X Q (703, lv, .int x :: st, h)) := az_wp_iff.trans az_go_ialX
set_option maxRecDepth 20000 in
theorem az_sL_703 {a : Nat} {v1 : Value} : az_pL C X Q (703, lv, v1 :: .ref a :: st, h) ↔ az_isob (h.1 a) 10 = true ∧ az_cat st ≤ 8 ∧ az_mc C 126 [.ref a, v1] h (fun v h' => az_pL C X Q (706, lv, v ++ st, h')) := az_wp_iff.trans (az_go_if.trans (and_congr Iff.rfl az_go_call))
set_option maxRecDepth 20000 in
theorem az_sL_706 : az_pL C X Q (706, lv, st, h) ↔ az_ma (lv 2) (fun x => az_pL C X Q (707, lv, x :: st, h)) := az_wp_iff.trans az_go_lda
set_option maxRecDepth 20000 in
theorem az_sL_707 : az_pL C X Q (707, lv, st, h) ↔ az_ma (lv 0) (fun x => az_pL C X Q (708, lv, x :: st, h)) := az_wp_iff.trans az_go_lda
set_option maxRecDepth 20000 in
theorem az_sL_708 : az_pL C X Q (708, lv, st, h) ↔ az_mi (lv 3) (fun x => az_pL C X Q (709, lv, .int x :: st, h)) := az_wp_iff.trans az_go_ldi
set_option maxRecDepth 20000 in
theorem az_sL_709 : az_pL C X Q (709, lv, st, h) ↔ az_pL C X Q (710, lv, .int (Int32.ofInt (1)) :: st, h) := az_wp_iff
set_option maxRecDepth 20000 in
theorem az_sL_710 {x y : Int32} : az_pL C X Q (710, lv, .int y :: .int x :: st, h) ↔ az_pL C X Q (711, lv, .int (x + y) :: st, h) := az_wp_iff
set_option maxRecDepth 20000 in
theorem az_sL_711 {a : Nat} {i : Int32} : az_pL C X Q (711, lv, .int i :: .ref a :: st, h) ↔ az_mr ((X a).getD (h.1 a)) 0 i.toInt (fun x => az_pL C X Q (712, lv, .int x :: st, h)) := az_wp_iff.trans az_go_ialX
set_option maxRecDepth 20000 in
theorem az_sL_712 {a : Nat} {v1 : Value} : az_pL C X Q (712, lv, v1 :: .ref a :: st, h) ↔ az_isob (h.1 a) 11 = true ∧ az_cat st ≤ 8 ∧ az_mc C 182 [.ref a, v1] h (fun v h' => az_pL C X Q (715, lv, v ++ st, h')) := az_wp_iff.trans (az_go_if.trans (and_congr Iff.rfl az_go_call))
set_option maxRecDepth 20000 in
theorem az_sL_715 {x y : Int32} : az_pL C X Q (715, lv, .int y :: .int x :: st, h) ↔ (x = y → az_pL C X Q (836, lv, st, h)) ∧ (¬ x = y → az_pL C X Q (718, lv, st, h)) := az_wp_iff.trans (az_go_if2 az_d_eq)
set_option maxRecDepth 20000 in
theorem az_sL_718 : az_pL C X Q (718, lv, st, h) ↔ az_pL C X Q (719, lv, .int (Int32.ofInt (0)) :: st, h) := az_wp_iff
set_option maxRecDepth 20000 in
theorem az_sL_719 {x : Int32} : az_pL C X Q (719, lv, [.int x], h) ↔ (x = 0 ∨ x = 1) ∧ Q (some (.int x)) h := az_wp_iff.trans az_go_if
set_option maxRecDepth 20000 in
theorem az_sL_720 : az_pL C X Q (720, lv, st, h) ↔ az_ma (lv 1) (fun x => az_pL C X Q (721, lv, x :: st, h)) := az_wp_iff.trans az_go_lda
set_option maxRecDepth 20000 in
theorem az_sL_721 : az_pL C X Q (721, lv, st, h) ↔ az_ma (lv 0) (fun x => az_pL C X Q (722, lv, x :: st, h)) := az_wp_iff.trans az_go_lda
set_option maxRecDepth 20000 in
theorem az_sL_722 : az_pL C X Q (722, lv, st, h) ↔ az_mi (lv 3) (fun x => az_pL C X Q (723, lv, .int x :: st, h)) := az_wp_iff.trans az_go_ldi
set_option maxRecDepth 20000 in
theorem az_sL_723 : az_pL C X Q (723, lv, st, h) ↔ az_pL C X Q (724, lv, .int (Int32.ofInt (1)) :: st, h) := az_wp_iff
set_option maxRecDepth 20000 in
theorem az_sL_724 {x y : Int32} : az_pL C X Q (724, lv, .int y :: .int x :: st, h) ↔ az_pL C X Q (725, lv, .int (x + y) :: st, h) := az_wp_iff
set_option maxRecDepth 20000 in
theorem az_sL_725 {a : Nat} {i : Int32} : az_pL C X Q (725, lv, .int i :: .ref a :: st, h) ↔ az_mr ((X a).getD (h.1 a)) 0 i.toInt (fun x => az_pL C X Q (726, lv, .int x :: st, h)) := az_wp_iff.trans az_go_ialX
set_option maxRecDepth 20000 in
theorem az_sL_726 : az_pL C X Q (726, lv, st, h) ↔ az_ma (lv 0) (fun x => az_pL C X Q (727, lv, x :: st, h)) := az_wp_iff.trans az_go_lda
set_option maxRecDepth 20000 in
theorem az_sL_727 : az_pL C X Q (727, lv, st, h) ↔ az_mi (lv 3) (fun x => az_pL C X Q (728, lv, .int x :: st, h)) := az_wp_iff.trans az_go_ldi
set_option maxRecDepth 20000 in
theorem az_sL_728 : az_pL C X Q (728, lv, st, h) ↔ az_pL C X Q (729, lv, .int (Int32.ofInt (2)) :: st, h) := az_wp_iff
set_option maxRecDepth 20000 in
theorem az_sL_729 {x y : Int32} : az_pL C X Q (729, lv, .int y :: .int x :: st, h) ↔ az_pL C X Q (730, lv, .int (x + y) :: st, h) := az_wp_iff
set_option maxRecDepth 20000 in
theorem az_sL_730 {a : Nat} {i : Int32} : az_pL C X Q (730, lv, .int i :: .ref a :: st, h) ↔ az_mr ((X a).getD (h.1 a)) 0 i.toInt (fun x => az_pL C X Q (731, lv, .int x :: st, h)) := az_wp_iff.trans az_go_ialX
set_option maxRecDepth 20000 in
theorem az_sL_731 {a : Nat} {v1 v2 : Value} : az_pL C X Q (731, lv, v2 :: v1 :: .ref a :: st, h) ↔ az_isob (h.1 a) 10 = true ∧ az_cat st ≤ 8 ∧ az_mc C 127 [.ref a, v1, v2] h (fun v h' => az_pL C X Q (734, lv, v ++ st, h')) := az_wp_iff.trans (az_go_if.trans (and_congr Iff.rfl az_go_call))
set_option maxRecDepth 20000 in
theorem az_sL_734 : az_pL C X Q (734, lv, st, h) ↔ az_ma (lv 2) (fun x => az_pL C X Q (735, lv, x :: st, h)) := az_wp_iff.trans az_go_lda
set_option maxRecDepth 20000 in
theorem az_sL_735 : az_pL C X Q (735, lv, st, h) ↔ az_ma (lv 0) (fun x => az_pL C X Q (736, lv, x :: st, h)) := az_wp_iff.trans az_go_lda
set_option maxRecDepth 20000 in
theorem az_sL_736 : az_pL C X Q (736, lv, st, h) ↔ az_mi (lv 3) (fun x => az_pL C X Q (737, lv, .int x :: st, h)) := az_wp_iff.trans az_go_ldi
set_option maxRecDepth 20000 in
theorem az_sL_737 : az_pL C X Q (737, lv, st, h) ↔ az_pL C X Q (738, lv, .int (Int32.ofInt (1)) :: st, h) := az_wp_iff
set_option maxRecDepth 20000 in
theorem az_sL_738 {x y : Int32} : az_pL C X Q (738, lv, .int y :: .int x :: st, h) ↔ az_pL C X Q (739, lv, .int (x + y) :: st, h) := az_wp_iff
set_option maxRecDepth 20000 in
theorem az_sL_739 {a : Nat} {i : Int32} : az_pL C X Q (739, lv, .int i :: .ref a :: st, h) ↔ az_mr ((X a).getD (h.1 a)) 0 i.toInt (fun x => az_pL C X Q (740, lv, .int x :: st, h)) := az_wp_iff.trans az_go_ialX
set_option maxRecDepth 20000 in
theorem az_sL_740 : az_pL C X Q (740, lv, st, h) ↔ az_ma (lv 0) (fun x => az_pL C X Q (741, lv, x :: st, h)) := az_wp_iff.trans az_go_lda
set_option maxRecDepth 20000 in
theorem az_sL_741 : az_pL C X Q (741, lv, st, h) ↔ az_mi (lv 3) (fun x => az_pL C X Q (742, lv, .int x :: st, h)) := az_wp_iff.trans az_go_ldi
set_option maxRecDepth 20000 in
theorem az_sL_742 : az_pL C X Q (742, lv, st, h) ↔ az_pL C X Q (743, lv, .int (Int32.ofInt (2)) :: st, h) := az_wp_iff
set_option maxRecDepth 20000 in
theorem az_sL_743 {x y : Int32} : az_pL C X Q (743, lv, .int y :: .int x :: st, h) ↔ az_pL C X Q (744, lv, .int (x + y) :: st, h) := az_wp_iff
set_option maxRecDepth 20000 in
theorem az_sL_744 {a : Nat} {i : Int32} : az_pL C X Q (744, lv, .int i :: .ref a :: st, h) ↔ az_mr ((X a).getD (h.1 a)) 0 i.toInt (fun x => az_pL C X Q (745, lv, .int x :: st, h)) := az_wp_iff.trans az_go_ialX
set_option maxRecDepth 20000 in
theorem az_sL_745 {a : Nat} {v1 v2 : Value} : az_pL C X Q (745, lv, v2 :: v1 :: .ref a :: st, h) ↔ az_isob (h.1 a) 11 = true ∧ az_cat st ≤ 8 ∧ az_mc C 183 [.ref a, v1, v2] h (fun v h' => az_pL C X Q (748, lv, v ++ st, h')) := az_wp_iff.trans (az_go_if.trans (and_congr Iff.rfl az_go_call))
set_option maxRecDepth 20000 in
theorem az_sL_748 {x y : Int32} : az_pL C X Q (748, lv, .int y :: .int x :: st, h) ↔ (x = y → az_pL C X Q (836, lv, st, h)) ∧ (¬ x = y → az_pL C X Q (751, lv, st, h)) := az_wp_iff.trans (az_go_if2 az_d_eq)
set_option maxRecDepth 20000 in
theorem az_sL_751 : az_pL C X Q (751, lv, st, h) ↔ az_pL C X Q (752, lv, .int (Int32.ofInt (0)) :: st, h) := az_wp_iff
set_option maxRecDepth 20000 in
theorem az_sL_752 {x : Int32} : az_pL C X Q (752, lv, [.int x], h) ↔ (x = 0 ∨ x = 1) ∧ Q (some (.int x)) h := az_wp_iff.trans az_go_if
set_option maxRecDepth 20000 in
theorem az_sL_753 : az_pL C X Q (753, lv, st, h) ↔ az_ma (lv 1) (fun x => az_pL C X Q (754, lv, x :: st, h)) := az_wp_iff.trans az_go_lda
set_option maxRecDepth 20000 in
theorem az_sL_754 : az_pL C X Q (754, lv, st, h) ↔ az_ma (lv 0) (fun x => az_pL C X Q (755, lv, x :: st, h)) := az_wp_iff.trans az_go_lda
set_option maxRecDepth 20000 in
theorem az_sL_755 : az_pL C X Q (755, lv, st, h) ↔ az_mi (lv 3) (fun x => az_pL C X Q (756, lv, .int x :: st, h)) := az_wp_iff.trans az_go_ldi
set_option maxRecDepth 20000 in
theorem az_sL_756 : az_pL C X Q (756, lv, st, h) ↔ az_pL C X Q (757, lv, .int (Int32.ofInt (1)) :: st, h) := az_wp_iff
set_option maxRecDepth 20000 in
theorem az_sL_757 {x y : Int32} : az_pL C X Q (757, lv, .int y :: .int x :: st, h) ↔ az_pL C X Q (758, lv, .int (x + y) :: st, h) := az_wp_iff
set_option maxRecDepth 20000 in
theorem az_sL_758 {a : Nat} {i : Int32} : az_pL C X Q (758, lv, .int i :: .ref a :: st, h) ↔ az_mr ((X a).getD (h.1 a)) 0 i.toInt (fun x => az_pL C X Q (759, lv, .int x :: st, h)) := az_wp_iff.trans az_go_ialX
set_option maxRecDepth 20000 in
theorem az_sL_759 {a : Nat} {v1 : Value} : az_pL C X Q (759, lv, v1 :: .ref a :: st, h) ↔ az_isob (h.1 a) 10 = true ∧ az_cat st ≤ 8 ∧ az_mc C 128 [.ref a, v1] h (fun v h' => az_pL C X Q (762, lv, v ++ st, h')) := az_wp_iff.trans (az_go_if.trans (and_congr Iff.rfl az_go_call))
set_option maxRecDepth 20000 in
theorem az_sL_762 : az_pL C X Q (762, lv, st, h) ↔ az_ma (lv 2) (fun x => az_pL C X Q (763, lv, x :: st, h)) := az_wp_iff.trans az_go_lda
set_option maxRecDepth 20000 in
theorem az_sL_763 : az_pL C X Q (763, lv, st, h) ↔ az_ma (lv 0) (fun x => az_pL C X Q (764, lv, x :: st, h)) := az_wp_iff.trans az_go_lda
set_option maxRecDepth 20000 in
theorem az_sL_764 : az_pL C X Q (764, lv, st, h) ↔ az_mi (lv 3) (fun x => az_pL C X Q (765, lv, .int x :: st, h)) := az_wp_iff.trans az_go_ldi
set_option maxRecDepth 20000 in
theorem az_sL_765 : az_pL C X Q (765, lv, st, h) ↔ az_pL C X Q (766, lv, .int (Int32.ofInt (1)) :: st, h) := az_wp_iff
set_option maxRecDepth 20000 in
theorem az_sL_766 {x y : Int32} : az_pL C X Q (766, lv, .int y :: .int x :: st, h) ↔ az_pL C X Q (767, lv, .int (x + y) :: st, h) := az_wp_iff
set_option maxRecDepth 20000 in
theorem az_sL_767 {a : Nat} {i : Int32} : az_pL C X Q (767, lv, .int i :: .ref a :: st, h) ↔ az_mr ((X a).getD (h.1 a)) 0 i.toInt (fun x => az_pL C X Q (768, lv, .int x :: st, h)) := az_wp_iff.trans az_go_ialX
set_option maxRecDepth 20000 in
theorem az_sL_768 {a : Nat} {v1 : Value} : az_pL C X Q (768, lv, v1 :: .ref a :: st, h) ↔ az_isob (h.1 a) 11 = true ∧ az_cat st ≤ 8 ∧ az_mc C 184 [.ref a, v1] h (fun v h' => az_pL C X Q (771, lv, v ++ st, h')) := az_wp_iff.trans (az_go_if.trans (and_congr Iff.rfl az_go_call))
set_option maxRecDepth 20000 in
theorem az_sL_771 {x y : Int64} : az_pL C X Q (771, lv, .long y :: .long x :: st, h) ↔ az_pL C X Q (772, lv, .int (lg_cmp x y) :: st, h) := az_wp_iff
set_option maxRecDepth 20000 in
theorem az_sL_772 {x : Int32} : az_pL C X Q (772, lv, .int x :: st, h) ↔ (x = 0 → az_pL C X Q (836, lv, st, h)) ∧ (¬ x = 0 → az_pL C X Q (775, lv, st, h)) := az_wp_iff.trans (az_go_if1 az_d_eq)
set_option maxRecDepth 20000 in
theorem az_sL_775 : az_pL C X Q (775, lv, st, h) ↔ az_pL C X Q (776, lv, .int (Int32.ofInt (0)) :: st, h) := az_wp_iff
set_option maxRecDepth 20000 in
theorem az_sL_776 {x : Int32} : az_pL C X Q (776, lv, [.int x], h) ↔ (x = 0 ∨ x = 1) ∧ Q (some (.int x)) h := az_wp_iff.trans az_go_if
set_option maxRecDepth 20000 in
theorem az_sL_777 : az_pL C X Q (777, lv, st, h) ↔ az_ma (lv 1) (fun x => az_pL C X Q (778, lv, x :: st, h)) := az_wp_iff.trans az_go_lda
set_option maxRecDepth 20000 in
theorem az_sL_778 {a : Nat}  : az_pL C X Q (778, lv, .ref a :: st, h) ↔ az_isob (h.1 a) 10 = true ∧ az_cat st ≤ 8 ∧ az_mc C 129 [.ref a] h (fun v h' => az_pL C X Q (781, lv, v ++ st, h')) := az_wp_iff.trans (az_go_if.trans (and_congr Iff.rfl az_go_call))
set_option maxRecDepth 20000 in
theorem az_sL_781 : az_pL C X Q (781, lv, st, h) ↔ az_ma (lv 2) (fun x => az_pL C X Q (782, lv, x :: st, h)) := az_wp_iff.trans az_go_lda
set_option maxRecDepth 20000 in
theorem az_sL_782 {a : Nat}  : az_pL C X Q (782, lv, .ref a :: st, h) ↔ az_isob (h.1 a) 11 = true ∧ az_cat st ≤ 8 ∧ az_mc C 185 [.ref a] h (fun v h' => az_pL C X Q (785, lv, v ++ st, h')) := az_wp_iff.trans (az_go_if.trans (and_congr Iff.rfl az_go_call))
set_option maxRecDepth 20000 in
theorem az_sL_785 {x y : Int32} : az_pL C X Q (785, lv, .int y :: .int x :: st, h) ↔ (x = y → az_pL C X Q (836, lv, st, h)) ∧ (¬ x = y → az_pL C X Q (788, lv, st, h)) := az_wp_iff.trans (az_go_if2 az_d_eq)
set_option maxRecDepth 20000 in
theorem az_sL_788 : az_pL C X Q (788, lv, st, h) ↔ az_pL C X Q (789, lv, .int (Int32.ofInt (0)) :: st, h) := az_wp_iff
set_option maxRecDepth 20000 in
theorem az_sL_789 {x : Int32} : az_pL C X Q (789, lv, [.int x], h) ↔ (x = 0 ∨ x = 1) ∧ Q (some (.int x)) h := az_wp_iff.trans az_go_if
set_option maxRecDepth 20000 in
theorem az_sL_790 : az_pL C X Q (790, lv, st, h) ↔ az_ma (lv 1) (fun x => az_pL C X Q (791, lv, x :: st, h)) := az_wp_iff.trans az_go_lda
set_option maxRecDepth 20000 in
theorem az_sL_791 : az_pL C X Q (791, lv, st, h) ↔ az_ma (lv 0) (fun x => az_pL C X Q (792, lv, x :: st, h)) := az_wp_iff.trans az_go_lda
set_option maxRecDepth 20000 in
theorem az_sL_792 : az_pL C X Q (792, lv, st, h) ↔ az_mi (lv 3) (fun x => az_pL C X Q (793, lv, .int x :: st, h)) := az_wp_iff.trans az_go_ldi
set_option maxRecDepth 20000 in
theorem az_sL_793 : az_pL C X Q (793, lv, st, h) ↔ az_pL C X Q (794, lv, .int (Int32.ofInt (1)) :: st, h) := az_wp_iff
set_option maxRecDepth 20000 in
theorem az_sL_794 {x y : Int32} : az_pL C X Q (794, lv, .int y :: .int x :: st, h) ↔ az_pL C X Q (795, lv, .int (x + y) :: st, h) := az_wp_iff
set_option maxRecDepth 20000 in
theorem az_sL_795 {a : Nat} {i : Int32} : az_pL C X Q (795, lv, .int i :: .ref a :: st, h) ↔ az_mr ((X a).getD (h.1 a)) 0 i.toInt (fun x => az_pL C X Q (796, lv, .int x :: st, h)) := az_wp_iff.trans az_go_ialX
set_option maxRecDepth 20000 in
theorem az_sL_796 {a : Nat} {v1 : Value} : az_pL C X Q (796, lv, v1 :: .ref a :: st, h) ↔ az_isob (h.1 a) 10 = true ∧ az_cat st ≤ 8 ∧ az_mc C 130 [.ref a, v1] h (fun v h' => az_pL C X Q (799, lv, v ++ st, h')) := az_wp_iff.trans (az_go_if.trans (and_congr Iff.rfl az_go_call))
set_option maxRecDepth 20000 in
theorem az_sL_799 : az_pL C X Q (799, lv, st, h) ↔ az_ma (lv 2) (fun x => az_pL C X Q (800, lv, x :: st, h)) := az_wp_iff.trans az_go_lda
set_option maxRecDepth 20000 in
theorem az_sL_800 : az_pL C X Q (800, lv, st, h) ↔ az_ma (lv 0) (fun x => az_pL C X Q (801, lv, x :: st, h)) := az_wp_iff.trans az_go_lda
set_option maxRecDepth 20000 in
theorem az_sL_801 : az_pL C X Q (801, lv, st, h) ↔ az_mi (lv 3) (fun x => az_pL C X Q (802, lv, .int x :: st, h)) := az_wp_iff.trans az_go_ldi
set_option maxRecDepth 20000 in
theorem az_sL_802 : az_pL C X Q (802, lv, st, h) ↔ az_pL C X Q (803, lv, .int (Int32.ofInt (1)) :: st, h) := az_wp_iff
set_option maxRecDepth 20000 in
theorem az_sL_803 {x y : Int32} : az_pL C X Q (803, lv, .int y :: .int x :: st, h) ↔ az_pL C X Q (804, lv, .int (x + y) :: st, h) := az_wp_iff
set_option maxRecDepth 20000 in
theorem az_sL_804 {a : Nat} {i : Int32} : az_pL C X Q (804, lv, .int i :: .ref a :: st, h) ↔ az_mr ((X a).getD (h.1 a)) 0 i.toInt (fun x => az_pL C X Q (805, lv, .int x :: st, h)) := az_wp_iff.trans az_go_ialX
set_option maxRecDepth 20000 in
theorem az_sL_805 {a : Nat} {v1 : Value} : az_pL C X Q (805, lv, v1 :: .ref a :: st, h) ↔ az_isob (h.1 a) 11 = true ∧ az_cat st ≤ 8 ∧ az_mc C 188 [.ref a, v1] h (fun v h' => az_pL C X Q (808, lv, v ++ st, h')) := az_wp_iff.trans (az_go_if.trans (and_congr Iff.rfl az_go_call))
set_option maxRecDepth 20000 in
theorem az_sL_808 {x y : Int32} : az_pL C X Q (808, lv, .int y :: .int x :: st, h) ↔ (x = y → az_pL C X Q (836, lv, st, h)) ∧ (¬ x = y → az_pL C X Q (811, lv, st, h)) := az_wp_iff.trans (az_go_if2 az_d_eq)
set_option maxRecDepth 20000 in
theorem az_sL_811 : az_pL C X Q (811, lv, st, h) ↔ az_pL C X Q (812, lv, .int (Int32.ofInt (0)) :: st, h) := az_wp_iff
set_option maxRecDepth 20000 in
theorem az_sL_812 {x : Int32} : az_pL C X Q (812, lv, [.int x], h) ↔ (x = 0 ∨ x = 1) ∧ Q (some (.int x)) h := az_wp_iff.trans az_go_if
set_option maxRecDepth 20000 in
theorem az_sL_813 : az_pL C X Q (813, lv, st, h) ↔ az_ma (lv 1) (fun x => az_pL C X Q (814, lv, x :: st, h)) := az_wp_iff.trans az_go_lda
set_option maxRecDepth 20000 in
theorem az_sL_814 : az_pL C X Q (814, lv, st, h) ↔ az_ma (lv 0) (fun x => az_pL C X Q (815, lv, x :: st, h)) := az_wp_iff.trans az_go_lda
set_option maxRecDepth 20000 in
theorem az_sL_815 : az_pL C X Q (815, lv, st, h) ↔ az_mi (lv 3) (fun x => az_pL C X Q (816, lv, .int x :: st, h)) := az_wp_iff.trans az_go_ldi
set_option maxRecDepth 20000 in
theorem az_sL_816 : az_pL C X Q (816, lv, st, h) ↔ az_pL C X Q (817, lv, .int (Int32.ofInt (1)) :: st, h) := az_wp_iff
set_option maxRecDepth 20000 in
theorem az_sL_817 {x y : Int32} : az_pL C X Q (817, lv, .int y :: .int x :: st, h) ↔ az_pL C X Q (818, lv, .int (x + y) :: st, h) := az_wp_iff
set_option maxRecDepth 20000 in
theorem az_sL_818 {a : Nat} {i : Int32} : az_pL C X Q (818, lv, .int i :: .ref a :: st, h) ↔ az_mr ((X a).getD (h.1 a)) 0 i.toInt (fun x => az_pL C X Q (819, lv, .int x :: st, h)) := az_wp_iff.trans az_go_ialX
set_option maxRecDepth 20000 in
theorem az_sL_819 {a : Nat} {v1 : Value} : az_pL C X Q (819, lv, v1 :: .ref a :: st, h) ↔ az_isob (h.1 a) 10 = true ∧ az_cat st ≤ 8 ∧ az_mc C 131 [.ref a, v1] h (fun v h' => az_pL C X Q (822, lv, v ++ st, h')) := az_wp_iff.trans (az_go_if.trans (and_congr Iff.rfl az_go_call))
set_option maxRecDepth 20000 in
theorem az_sL_822 : az_pL C X Q (822, lv, st, h) ↔ az_ma (lv 2) (fun x => az_pL C X Q (823, lv, x :: st, h)) := az_wp_iff.trans az_go_lda
set_option maxRecDepth 20000 in
theorem az_sL_823 : az_pL C X Q (823, lv, st, h) ↔ az_ma (lv 0) (fun x => az_pL C X Q (824, lv, x :: st, h)) := az_wp_iff.trans az_go_lda
set_option maxRecDepth 20000 in
theorem az_sL_824 : az_pL C X Q (824, lv, st, h) ↔ az_mi (lv 3) (fun x => az_pL C X Q (825, lv, .int x :: st, h)) := az_wp_iff.trans az_go_ldi
set_option maxRecDepth 20000 in
theorem az_sL_825 : az_pL C X Q (825, lv, st, h) ↔ az_pL C X Q (826, lv, .int (Int32.ofInt (1)) :: st, h) := az_wp_iff
set_option maxRecDepth 20000 in
theorem az_sL_826 {x y : Int32} : az_pL C X Q (826, lv, .int y :: .int x :: st, h) ↔ az_pL C X Q (827, lv, .int (x + y) :: st, h) := az_wp_iff
set_option maxRecDepth 20000 in
theorem az_sL_827 {a : Nat} {i : Int32} : az_pL C X Q (827, lv, .int i :: .ref a :: st, h) ↔ az_mr ((X a).getD (h.1 a)) 0 i.toInt (fun x => az_pL C X Q (828, lv, .int x :: st, h)) := az_wp_iff.trans az_go_ialX
set_option maxRecDepth 20000 in
theorem az_sL_828 {a : Nat} {v1 : Value} : az_pL C X Q (828, lv, v1 :: .ref a :: st, h) ↔ az_isob (h.1 a) 11 = true ∧ az_cat st ≤ 8 ∧ az_mc C 189 [.ref a, v1] h (fun v h' => az_pL C X Q (831, lv, v ++ st, h')) := az_wp_iff.trans (az_go_if.trans (and_congr Iff.rfl az_go_call))
set_option maxRecDepth 20000 in
theorem az_sL_831 {x y : Int32} : az_pL C X Q (831, lv, .int y :: .int x :: st, h) ↔ (x = y → az_pL C X Q (836, lv, st, h)) ∧ (¬ x = y → az_pL C X Q (834, lv, st, h)) := az_wp_iff.trans (az_go_if2 az_d_eq)
set_option maxRecDepth 20000 in
theorem az_sL_834 : az_pL C X Q (834, lv, st, h) ↔ az_pL C X Q (835, lv, .int (Int32.ofInt (0)) :: st, h) := az_wp_iff
set_option maxRecDepth 20000 in
theorem az_sL_835 {x : Int32} : az_pL C X Q (835, lv, [.int x], h) ↔ (x = 0 ∨ x = 1) ∧ Q (some (.int x)) h := az_wp_iff.trans az_go_if
set_option maxRecDepth 20000 in
theorem az_sL_836 : az_pL C X Q (836, lv, st, h) ↔ az_mi (lv 3) (fun x => az_pL C X Q (839, (az_s1 lv 3 (.int (x + Int32.ofInt (6)))), st, h)) := az_wp_iff.trans az_go_inc
set_option maxRecDepth 20000 in
theorem az_sL_839 : az_pL C X Q (839, lv, st, h) ↔ az_pL C X Q (18, lv, st, h) := az_wp_iff
set_option maxRecDepth 20000 in
theorem az_sL_842 : az_pL C X Q (842, lv, st, h) ↔ az_pL C X Q (843, lv, .int (Int32.ofInt (1)) :: st, h) := az_wp_iff
set_option maxRecDepth 20000 in
theorem az_sL_843 {x : Int32} : az_pL C X Q (843, lv, [.int x], h) ↔ (x = 0 ∨ x = 1) ∧ Q (some (.int x)) h := az_wp_iff.trans az_go_if
end AzStL
