-- deps: 30.mK 31.mL 32.mM 34.mN 37.mQ 38.mR 39.mS 43.cls 44.sta 44.stb 44.stc 44.std 45.cA 46.cB 47.cC 48.cD 49.cE 50.cF 54.cI 55.cJ 58.cM 59.cN 43.raw 51.cG 53.cH 56.cK 57.cL 52.cG2 60.cO 61.cP 62.cQ 64.iA 65.iB 66.iC 67.iD 68.iE 69.iF 70.iG 71.iH 72.iI 73.iJ 74.iK 75.iL 76.iM 77.iN 79.iR 80.iS 81.iT 82.iU 83.iV 84.iW 85.iX 86.bA 87.bB 88.bC 34.mN2 34.mN3 35.mO 36.mP 33.mM2 40.mT 41.mU 42.mV 89.bD 90.rA 91.rB 92.rC 93.rD 94.rE 95.rF 96.rG 97.rH 98.rI 99.rJ 99.sA 99.sB 99.sC 99.sD 99.tA 99.tB 99.tC 99.tD 99.tE
/-! ===== each call, on both sides, in one heap ===== -/
section VA
variable {x0 r : Nat} {A B : Int} {F : Nat} {h : az_H} {S : az_M} {G : cz_G} {f : Nat → az_C} {z : Nat × Nat} {jr jc : Nat} {as : List Value} {v : Value}
/-- what the law's heap is between two calls -/
def LH (x0 r : Nat) (A B : Int) (F : Nat) (h : az_H) : Prop := ∃ (S : az_M) (G : cz_G) (f : Nat → az_C) (z : Nat × Nat), h = (cz_H G S f, z) ∧ LI r S G z A B F ∧ G.ad 1 = x0 ∧ az_RH r S f = f
/-- a call of the class, then of the reference: one answer -/
def LK (x0 r : Nat) (A B : Int) (F : Nat) (h : az_H) (jr jc : Nat) (as : List Value) (v : Value) : Prop := ∃ (hm h' : az_H) (F' : Nat), F' ≤ F + 1 ∧ LH x0 r A B F' h' ∧ az_isob (h.1 x0) 10 = true ∧ az_isob (hm.1 r) 11 = true ∧ az_ex az_T 8 jc (.ref x0 :: as) h (some v) hm ∧ az_ex az_T 8 jr (.ref r :: as) hm (some v) h'
theorem RH_RH {S S' : az_M} : az_RH r S (az_RH r S' f) = az_RH r S f := by
  funext x
  unfold az_RH
  split <;> rfl
theorem LK_of (hL : LI r S G z A B F) (ha : G.ad 1 = x0) (hf : az_RH r S f = f) (q : ST r S G z A B F jr jc as v) : LK x0 r A B F (cz_H G S f, z) jr jc as v := by
  obtain ⟨S', rr, cc⟩ := q
  obtain ⟨G', f', z', F', hF', L', X', c'⟩ := cc f
  have e1 : az_RH r S f' = f' := both_h (f := f) hL (by rw [hf]; exact X')
  have e2 : cz_H G' S' f' = az_RH r S (cz_H G' S' f') := by
    rw [two_h L'.re, e1]
  refine ⟨(cz_H G' S' f', z'), (cz_H G' S' (az_RH r S' f'), z'), F', hF', ⟨S', G', _, z', rfl, L', X'.a1.trans ha, RH_RH⟩, ?_, ?_, ?_, ?_⟩
  · show az_isob (cz_H G S f x0) 10 = true
    rw [← ha, cz_H_at (by decide) (cz_okF 1 (by decide) (by decide))]
    rfl
  · show az_isob (cz_H G' S' f' r) 11 = true
    rw [e2, az_RH_0]
    rfl
  · rw [← ha]
    exact c' 0
  · have w := rr 0 (cz_H G' S' f') z'
    rw [← e2, two_h L'.re] at w
    exact w
theorem i32_t (x : Int32) : i32 x.toInt := ⟨x.le_toInt, x.toInt_lt⟩
theorem K_bin (hh : LH x0 r A B F h) (x1 x2 : Int32) : ∃ w : Int32, LK x0 r A B F h 137 110 [.int x1, .int x2] (.int w) := by
  obtain ⟨S, G, f, z, rfl, hL, ha, hf⟩ := hh
  obtain ⟨v, q⟩ := ST_bin hL x1.toInt x2.toInt (i32_t x1) (i32_t x2)
  simp only [Int32.ofInt_toInt] at q
  exact ⟨_, LK_of hL ha hf q⟩
theorem K_stage (hh : LH x0 r A B F h) (x1 x2 x3 x4 : Int32) : ∃ w : Int32, LK x0 r A B F h 139 111 [.int x1, .int x2, .int x3, .int x4] (.int w) := by
  obtain ⟨S, G, f, z, rfl, hL, ha, hf⟩ := hh
  obtain ⟨v, q⟩ := ST_stage hL x1.toInt x2.toInt x3.toInt x4.toInt (i32_t x1) (i32_t x2) (i32_t x3) (i32_t x4)
  simp only [Int32.ofInt_toInt] at q
  exact ⟨_, LK_of hL ha hf q⟩
theorem K_from (hh : LH x0 r A B F h) (x1 x2 : Int32) : ∃ w : Int32, LK x0 r A B F h 142 112 [.int x1, .int x2] (.int w) := by
  obtain ⟨S, G, f, z, rfl, hL, ha, hf⟩ := hh
  obtain ⟨v, q⟩ := ST_from hL x1.toInt x2.toInt (i32_t x1) (i32_t x2)
  simp only [Int32.ofInt_toInt] at q
  exact ⟨_, LK_of hL ha hf q⟩
theorem K_to (hh : LH x0 r A B F h) (x1 x2 x3 : Int32) : ∃ w : Int32, LK x0 r A B F h 143 113 [.int x1, .int x2, .int x3] (.int w) := by
  obtain ⟨S, G, f, z, rfl, hL, ha, hf⟩ := hh
  obtain ⟨v, q⟩ := ST_to hL x1.toInt x2.toInt x3.toInt (i32_t x1) (i32_t x2) (i32_t x3)
  simp only [Int32.ofInt_toInt] at q
  exact ⟨_, LK_of hL ha hf q⟩
theorem K_stands (hh : LH x0 r A B F h) : ∃ w : Int32, LK x0 r A B F h 146 114 [] (.int w) := by
  obtain ⟨S, G, f, z, rfl, hL, ha, hf⟩ := hh
  obtain ⟨v, q⟩ := ST_stands hL  
  exact ⟨_, LK_of hL ha hf q⟩
theorem K_feed (hh : LH x0 r A B F h) (hF : F + 1 ≤ 512) (x1 x2 x3 x4 x5 : Int32) : ∃ w : Int32, LK x0 r A B F h 147 115 [.int x1, .int x2, .int x3, .int x4, .int x5] (.int w) := by
  obtain ⟨S, G, f, z, rfl, hL, ha, hf⟩ := hh
  obtain ⟨v, q⟩ := ST_feed hL hF x1.toInt x2.toInt x3.toInt x4.toInt x5.toInt (i32_t x1) (i32_t x2) (i32_t x3) (i32_t x4) (i32_t x5)
  simp only [Int32.ofInt_toInt] at q
  exact ⟨_, LK_of hL ha hf q⟩
theorem K_plan (hh : LH x0 r A B F h) (x1 x2 x3 : Int32) : ∃ w : Int32, LK x0 r A B F h 151 117 [.int x1, .int x2, .int x3] (.int w) := by
  obtain ⟨S, G, f, z, rfl, hL, ha, hf⟩ := hh
  obtain ⟨v, q⟩ := ST_plan hL x1.toInt x2.toInt x3.toInt (i32_t x1) (i32_t x2) (i32_t x3)
  simp only [Int32.ofInt_toInt] at q
  exact ⟨_, LK_of hL ha hf q⟩
theorem K_rule (hh : LH x0 r A B F h) (x1 x2 x3 x4 : Int32) : ∃ w : Int32, LK x0 r A B F h 152 118 [.int x1, .int x2, .int x3, .int x4] (.int w) := by
  obtain ⟨S, G, f, z, rfl, hL, ha, hf⟩ := hh
  obtain ⟨v, q⟩ := ST_rule hL x1.toInt x2.toInt x3.toInt x4.toInt (i32_t x1) (i32_t x2) (i32_t x3) (i32_t x4)
  simp only [Int32.ofInt_toInt] at q
  exact ⟨_, LK_of hL ha hf q⟩
theorem K_beat (hh : LH x0 r A B F h) (x1 : Int32) : ∃ w : Int32, LK x0 r A B F h 174 119 [.int x1] (.int w) := by
  obtain ⟨S, G, f, z, rfl, hL, ha, hf⟩ := hh
  obtain ⟨v, q⟩ := ST_beat hL x1.toInt (i32_t x1)
  simp only [Int32.ofInt_toInt] at q
  exact ⟨_, LK_of hL ha hf q⟩
theorem K_command (hh : LH x0 r A B F h) (x1 : Int32) : ∃ w : Int32, LK x0 r A B F h 175 120 [.int x1] (.int w) := by
  obtain ⟨S, G, f, z, rfl, hL, ha, hf⟩ := hh
  obtain ⟨v, q⟩ := ST_command hL x1.toInt (i32_t x1)
  simp only [Int32.ofInt_toInt] at q
  exact ⟨_, LK_of hL ha hf q⟩
theorem K_divert (hh : LH x0 r A B F h) (x1 x2 x3 : Int32) : ∃ w : Int32, LK x0 r A B F h 176 121 [.int x1, .int x2, .int x3] (.int w) := by
  obtain ⟨S, G, f, z, rfl, hL, ha, hf⟩ := hh
  obtain ⟨v, q⟩ := ST_divert hL x1.toInt x2.toInt x3.toInt (i32_t x1) (i32_t x2) (i32_t x3)
  simp only [Int32.ofInt_toInt] at q
  exact ⟨_, LK_of hL ha hf q⟩
theorem K_state (hh : LH x0 r A B F h) (x1 x2 : Int32) : ∃ w : Int32, LK x0 r A B F h 178 122 [.int x1, .int x2] (.int w) := by
  obtain ⟨S, G, f, z, rfl, hL, ha, hf⟩ := hh
  obtain ⟨loc, D, iv⟩ := hL.iv
  obtain ⟨v, q⟩ := P_state iv x1.toInt x2.toInt (i32_t x1) (i32_t x2)
  have q := ST_asks hL q
  simp only [Int32.ofInt_toInt] at q
  exact ⟨_, LK_of hL ha hf q⟩
theorem K_in (hh : LH x0 r A B F h) (x1 x2 x3 : Int32) : ∃ w : Int32, LK x0 r A B F h 179 123 [.int x1, .int x2, .int x3] (.int w) := by
  obtain ⟨S, G, f, z, rfl, hL, ha, hf⟩ := hh
  obtain ⟨loc, D, iv⟩ := hL.iv
  obtain ⟨v, q⟩ := P_in iv x1.toInt x2.toInt x3.toInt (i32_t x1) (i32_t x2) (i32_t x3)
  have q := ST_asks hL q
  simp only [Int32.ofInt_toInt] at q
  exact ⟨_, LK_of hL ha hf q⟩
theorem K_level (hh : LH x0 r A B F h) (x1 x2 : Int32) : ∃ w : Int32, LK x0 r A B F h 180 124 [.int x1, .int x2] (.int w) := by
  obtain ⟨S, G, f, z, rfl, hL, ha, hf⟩ := hh
  obtain ⟨loc, D, iv⟩ := hL.iv
  obtain ⟨v, q⟩ := P_level iv x1.toInt x2.toInt (i32_t x1) (i32_t x2)
  have q := ST_asks hL q
  simp only [Int32.ofInt_toInt] at q
  exact ⟨_, LK_of hL ha hf q⟩
theorem K_part (hh : LH x0 r A B F h) (x1 x2 : Int32) : ∃ w : Int32, LK x0 r A B F h 181 125 [.int x1, .int x2] (.int w) := by
  obtain ⟨S, G, f, z, rfl, hL, ha, hf⟩ := hh
  obtain ⟨loc, D, iv⟩ := hL.iv
  obtain ⟨v, q⟩ := P_part iv x1.toInt x2.toInt (i32_t x1) (i32_t x2)
  have q := ST_asks hL q
  simp only [Int32.ofInt_toInt] at q
  exact ⟨_, LK_of hL ha hf q⟩
theorem K_sacks (hh : LH x0 r A B F h) (x1 : Int32) : ∃ w : Int32, LK x0 r A B F h 182 126 [.int x1] (.int w) := by
  obtain ⟨S, G, f, z, rfl, hL, ha, hf⟩ := hh
  obtain ⟨loc, D, iv⟩ := hL.iv
  obtain ⟨v, q⟩ := P_sacks (S := S) x1.toInt (i32_t x1)
  have q := ST_asks hL q
  simp only [Int32.ofInt_toInt] at q
  exact ⟨_, LK_of hL ha hf q⟩
theorem K_aside (hh : LH x0 r A B F h) (x1 x2 : Int32) : ∃ w : Int32, LK x0 r A B F h 183 127 [.int x1, .int x2] (.int w) := by
  obtain ⟨S, G, f, z, rfl, hL, ha, hf⟩ := hh
  obtain ⟨loc, D, iv⟩ := hL.iv
  obtain ⟨v, q⟩ := P_aside iv x1.toInt x2.toInt (i32_t x1) (i32_t x2)
  have q := ST_asks hL q
  simp only [Int32.ofInt_toInt] at q
  exact ⟨_, LK_of hL ha hf q⟩
theorem K_total (hh : LH x0 r A B F h) (x1 : Int32) : ∃ w : Int64, LK x0 r A B F h 184 128 [.int x1] (.long w) := by
  obtain ⟨S, G, f, z, rfl, hL, ha, hf⟩ := hh
  obtain ⟨loc, D, iv⟩ := hL.iv
  obtain ⟨v, q⟩ := P_total iv x1.toInt (i32_t x1)
  have q := ST_asks hL q
  simp only [Int32.ofInt_toInt] at q
  exact ⟨_, LK_of hL ha hf q⟩
theorem K_quiet (hh : LH x0 r A B F h) : ∃ w : Int32, LK x0 r A B F h 185 129 [] (.int w) := by
  obtain ⟨S, G, f, z, rfl, hL, ha, hf⟩ := hh
  obtain ⟨loc, D, iv⟩ := hL.iv
  obtain ⟨v, q⟩ := P_quiet iv  
  have q := ST_asks hL q
  exact ⟨_, LK_of hL ha hf q⟩
theorem K_ring (hh : LH x0 r A B F h) (x1 : Int32) : ∃ w : Int32, LK x0 r A B F h 188 130 [.int x1] (.int w) := by
  obtain ⟨S, G, f, z, rfl, hL, ha, hf⟩ := hh
  obtain ⟨v, q⟩ := ST_ring hL x1.toInt (i32_t x1)
  simp only [Int32.ofInt_toInt] at q
  exact ⟨_, LK_of hL ha hf q⟩
theorem K_count (hh : LH x0 r A B F h) (x1 : Int32) : ∃ w : Int32, LK x0 r A B F h 189 131 [.int x1] (.int w) := by
  obtain ⟨S, G, f, z, rfl, hL, ha, hf⟩ := hh
  obtain ⟨loc, D, iv⟩ := hL.iv
  obtain ⟨v, q⟩ := P_count iv x1.toInt (i32_t x1)
  have q := ST_asks hL q
  simp only [Int32.ofInt_toInt] at q
  exact ⟨_, LK_of hL ha hf q⟩
end VA
