/-! ===== numbers; the ends of calls ===== -/
theorem az_ex_eq {n j : Nat} {as : List Value} {h h' : az_H} {r : Option Value} {R : az_row} (hT : az_T[j]? = some R) (hl : (lg_sl as).length ≤ R.2.2.1) (hw : az_wp (az_ex az_T n) (fun _ => none) R.2.2.2.1 R.2.2.2.2 (fun r0 h0 => r0 = r ∧ h0 = h') (0, az_arg 0 as, [], h)) : az_ex az_T (n + 1) j as h r h' := ⟨R, hT, hl, hw⟩
theorem az_mc_of {C : az_Cl} {j : Nat} {as : List Value} {h h' : az_H} {r : Option Value} {K : List Value → az_H → Prop} (hc : C j as h r h') (k : K r.toList h') : az_mc C j as h K := ⟨r, h', hc, k⟩
theorem az_toInt {x : Int} (h1 : -2147483648 ≤ x) (h2 : x < 2147483648) : (Int32.ofInt x).toInt = x := Int32.toInt_ofInt_of_le h1 h2
theorem az_le {x y : Int} (h1 : -2147483648 ≤ x) (h2 : x < 2147483648) (h3 : -2147483648 ≤ y) (h4 : y < 2147483648) : (Int32.ofInt x ≤ Int32.ofInt y) = (x ≤ y) := by
  rw [Int32.le_iff_toInt_le, az_toInt h1 h2, az_toInt h3 h4]
theorem az_lt {x y : Int} (h1 : -2147483648 ≤ x) (h2 : x < 2147483648) (h3 : -2147483648 ≤ y) (h4 : y < 2147483648) : (Int32.ofInt x < Int32.ofInt y) = (x < y) := by
  rw [Int32.lt_iff_toInt_lt, az_toInt h1 h2, az_toInt h3 h4]
theorem az_eq {x y : Int} (h1 : -2147483648 ≤ x) (h2 : x < 2147483648) (h3 : -2147483648 ≤ y) (h4 : y < 2147483648) : (Int32.ofInt x = Int32.ofInt y) = (x = y) := by
  refine propext ⟨fun h => ?_, fun h => by rw [h]⟩
  rw [← az_toInt h1 h2, h, az_toInt h3 h4]
theorem az_le0 {x : Int} (h1 : -2147483648 ≤ x) (h2 : x < 2147483648) : ((0 : Int32) ≤ Int32.ofInt x) = (0 ≤ x) := az_le (x := 0) (by decide) (by decide) h1 h2
theorem az_0le {x : Int} (h1 : -2147483648 ≤ x) (h2 : x < 2147483648) : (Int32.ofInt x ≤ (0 : Int32)) = (x ≤ 0) := az_le (y := 0) h1 h2 (by decide) (by decide)
theorem az_lt0 {x : Int} (h1 : -2147483648 ≤ x) (h2 : x < 2147483648) : ((0 : Int32) < Int32.ofInt x) = (0 < x) := az_lt (x := 0) (by decide) (by decide) h1 h2
theorem az_0lt {x : Int} (h1 : -2147483648 ≤ x) (h2 : x < 2147483648) : (Int32.ofInt x < (0 : Int32)) = (x < 0) := az_lt (y := 0) h1 h2 (by decide) (by decide)
theorem az_eq0 {x : Int} (h1 : -2147483648 ≤ x) (h2 : x < 2147483648) : (Int32.ofInt x = (0 : Int32)) = (x = 0) := az_eq (y := 0) h1 h2 (by decide) (by decide)
theorem az_eq1 {x : Int} (h1 : -2147483648 ≤ x) (h2 : x < 2147483648) : (Int32.ofInt x = (1 : Int32)) = (x = 1) := az_eq (y := 1) h1 h2 (by decide) (by decide)
theorem az_add {x y : Int} : Int32.ofInt x + Int32.ofInt y = Int32.ofInt (x + y) := (Int32.ofInt_add x y).symm
theorem az_sub {x y : Int} : Int32.ofInt x - Int32.ofInt y = Int32.ofInt (x - y) := (Int32.ofInt_sub x y).symm
theorem az_mul {x y : Int} : Int32.ofInt x * Int32.ofInt y = Int32.ofInt (x * y) := (Int32.ofInt_mul x y).symm
theorem az_ite {c : Prop} [Decidable c] {x y : Int} : (if c then Int32.ofInt x else Int32.ofInt y) = Int32.ofInt (if c then x else y) := by split <;> rfl
theorem az_up_ap {S : az_M} {k k1 : Nat} {i v j : Int} : az_up S k i v k1 j = if k1 = k then (if j = i then v else S k1 j) else S k1 j := rfl
theorem az_rv {x y : Int} (h : x = y) : some (Value.int (Int32.ofInt x)) = some (Value.int (Int32.ofInt y)) := by rw [h]
theorem az_rvI {x y : Int} (h1 : -2147483648 ≤ x) (h2 : x < 2147483648) (h3 : -2147483648 ≤ y) (h4 : y < 2147483648) : (some (Value.int (Int32.ofInt x)) = some (Value.int (Int32.ofInt y))) = (x = y) := by
  refine propext ⟨fun h => ?_, az_rv⟩
  injection h with h
  injection h with h
  exact (az_eq h1 h2 h3 h4).mp h
theorem az_bo {c : Prop} [Decidable c] : (Int32.ofInt (if c then 1 else 0) = 1) = c := by
  split
  · rename_i h; exact propext ⟨fun _ => h, fun _ => rfl⟩
  · rename_i h; exact propext ⟨fun q => absurd q (by decide), fun q => absurd q h⟩
theorem az_rb0 {c : Prop} [Decidable c] : (some (Value.int (Int32.ofInt 0)) = some (Value.int (Int32.ofInt (if c then 1 else 0)))) = ¬ c := by
  split
  · rename_i h; exact propext ⟨fun q => absurd q (by decide), fun q => absurd h q⟩
  · rename_i h; exact propext ⟨fun _ => h, fun _ => rfl⟩
theorem az_rb1 {c : Prop} [Decidable c] : (some (Value.int (Int32.ofInt 1)) = some (Value.int (Int32.ofInt (if c then 1 else 0)))) = c := by
  split
  · rename_i h; exact propext ⟨fun _ => h, fun _ => rfl⟩
  · rename_i h; exact propext ⟨fun q => absurd q (by decide), fun q => absurd q h⟩
theorem az_rbi {c d : Prop} [Decidable c] [Decidable d] : (some (Value.int (Int32.ofInt (if c then 1 else 0))) = some (Value.int (Int32.ofInt (if d then 1 else 0)))) = (c ↔ d) := by
  by_cases h : c
  · rw [if_pos h, az_rb1]
    exact propext ⟨fun q => ⟨fun _ => q, fun _ => h⟩, fun q => q.mp h⟩
  · rw [if_neg h, az_rb0]
    exact propext ⟨fun q => ⟨fun z => absurd z h, fun z => absurd z q⟩, fun q z => h (q.mpr z)⟩
theorem az_rbx {c : Prop} [Decidable c] {b : Int} (h1 : -2147483648 ≤ b) (h2 : b < 2147483648) : (some (Value.int (Int32.ofInt (if c then 1 else 0))) = some (Value.int (Int32.ofInt b))) = ((c → b = 1) ∧ (¬ c → b = 0)) := by
  by_cases h : c
  · rw [if_pos h, az_rvI (by decide) (by decide) h1 h2]
    exact propext ⟨fun q => ⟨fun _ => q.symm, fun z => absurd h z⟩, fun q => (q.1 h).symm⟩
  · rw [if_neg h, az_rvI (by decide) (by decide) h1 h2]
    exact propext ⟨fun q => ⟨fun z => absurd z h, fun _ => q.symm⟩, fun q => (q.2 h).symm⟩
theorem az_b01 {c : Prop} [Decidable c] : (Int32.ofInt (if c then 1 else 0) = 0 ∨ Int32.ofInt (if c then 1 else 0) = 1) = True := by
  refine eq_true ?_
  split
  · exact Or.inr rfl
  · exact Or.inl rfl
theorem az_bz {c : Prop} [Decidable c] : (Int32.ofInt (if c then 1 else 0) = 0) = ¬ c := by
  split
  · rename_i h; exact propext ⟨fun q => absurd q (by decide), fun q => absurd h q⟩
  · rename_i h; exact propext ⟨fun _ => h, fun _ => rfl⟩
theorem az_b0 : (Int32.ofInt 0 = 0 ∨ Int32.ofInt 0 = 1) = True := eq_true (Or.inl rfl)
theorem az_b1 : (Int32.ofInt 1 = 0 ∨ Int32.ofInt 1 = 1) = True := eq_true (Or.inr rfl)
theorem az_nn {c : Prop} : (¬ ¬ c) = c := propext Classical.not_not
theorem az_RH_cg {r : Nat} {S S1 : az_M} {f : Nat → az_C} (h : ∀ k, k < 55 → ∀ i, S k i = S1 k i) : az_RH r S f = az_RH r S1 f := by
  have e : ∀ k, k < 55 → S k = S1 k := fun k hk => funext (h k hk)
  have hk : ∀ o, o < 45 → 1 ≤ o → az_kR o < 55 := by decide +kernel
  funext a
  unfold az_RH
  split
  · rename_i ha
    unfold az_cR
    split
    · unfold az_fR
      rw [e 0 (by decide), e 1 (by decide), e 2 (by decide), e 33 (by decide), e 38 (by decide), e 43 (by decide), e 48 (by decide), e 49 (by decide), e 50 (by decide), e 51 (by decide), e 52 (by decide)]
    · rw [e _ (hk (a - r) (by omega) (by omega))]
  · rfl
theorem az_nl_i {x : Int32} : az_nl (some (.int x)) = some (.int x) := rfl
theorem az_nl_r {x : Nat} : az_nl (some (.ref x)) = some (.ref x) := rfl
theorem az_nl_0 : az_nl (some .null) = some .null := rfl
theorem az_nl_e : az_nl none = none := rfl
theorem az_nl_l {x : Int64} : az_nl (some (.long x)) = none := rfl
theorem az_s1_ap {lv : az_L} {i j : Nat} {v : Value} : az_s1 lv i v j = if j = i then some v else if j + 1 = i then az_nl (lv j) else lv j := rfl
theorem az_s2_ap {lv : az_L} {i j : Nat} {v : Value} : az_s2 lv i v j = if j = i then some v else if j = i + 1 then none else if j + 1 = i then az_nl (lv j) else lv j := rfl
theorem az_arg_ap {k j : Nat} {v : Value} {vs : List Value} : az_arg k (v :: vs) j = if j = k then some v else az_arg (if v.category = 2 then k + 2 else k + 1) vs j := rfl
theorem az_arg_e {k j : Nat} : az_arg k [] j = none := rfl
theorem lz_toInt {x : Int} (h1 : -9223372036854775808 ≤ x) (h2 : x < 9223372036854775808) : (Int64.ofInt x).toInt = x := Int64.toInt_ofInt_of_le h1 h2
theorem lz_add {x y : Int} : Int64.ofInt x + Int64.ofInt y = Int64.ofInt (x + y) := (Int64.ofInt_add x y).symm
theorem lz_sub {x y : Int} : Int64.ofInt x - Int64.ofInt y = Int64.ofInt (x - y) := (Int64.ofInt_sub x y).symm
theorem lz_mul {x y : Int} : Int64.ofInt x * Int64.ofInt y = Int64.ofInt (x * y) := (Int64.ofInt_mul x y).symm
theorem lz_inj {x y : Int64} (h : x.toInt = y.toInt) : x = y := Int64.toInt_inj.mp h
theorem lz_i2l {x : Int} (h1 : -2147483648 ≤ x) (h2 : x < 2147483648) : (Int32.ofInt x).toInt64 = Int64.ofInt x := by
  apply lz_inj
  rw [Int32.toInt_toInt64, az_toInt h1 h2, lz_toInt (by omega) (by omega)]
theorem lz_l2i {x : Int} : (Int64.ofInt x).toInt32 = Int32.ofInt x := Int64.toInt32_ofInt
theorem lz_div {x y : Int} (h1 : 0 ≤ x) (h2 : x < 9223372036854775808) (h3 : 0 < y) (h4 : y < 9223372036854775808) : Int64.ofInt x / Int64.ofInt y = Int64.ofInt (x / y) := by
  have q1 : 0 ≤ x / y := Int.ediv_nonneg h1 (by omega)
  have q2 : x / y ≤ x := Int.ediv_le_self y h1
  apply lz_inj
  rw [Int64.toInt_div, lz_toInt (by omega) h2, lz_toInt (by omega) h4, lz_toInt (by omega) (by omega), Int.tdiv_eq_ediv_of_nonneg h1, Int.bmod_eq_of_le (by omega) (by omega)]
theorem lz_eq {x y : Int} (h1 : -9223372036854775808 ≤ x) (h2 : x < 9223372036854775808) (h3 : -9223372036854775808 ≤ y) (h4 : y < 9223372036854775808) : (Int64.ofInt x = Int64.ofInt y) = (x = y) := by
  refine propext ⟨fun h => ?_, fun h => by rw [h]⟩
  rw [← lz_toInt h1 h2, h, lz_toInt h3 h4]
theorem lz_eq0 {x : Int} (h1 : -9223372036854775808 ≤ x) (h2 : x < 9223372036854775808) : (Int64.ofInt x = (0 : Int64)) = (x = 0) := lz_eq (y := 0) h1 h2 (by decide) (by decide)
theorem lz_lt {x y : Int} (h1 : -9223372036854775808 ≤ x) (h2 : x < 9223372036854775808) (h3 : -9223372036854775808 ≤ y) (h4 : y < 9223372036854775808) : (Int64.ofInt x < Int64.ofInt y) = (x < y) := by
  rw [Int64.lt_iff_toInt_lt, lz_toInt h1 h2, lz_toInt h3 h4]
theorem lz_cmp {x y : Int} (h1 : -9223372036854775808 ≤ x) (h2 : x < 9223372036854775808) (h3 : -9223372036854775808 ≤ y) (h4 : y < 9223372036854775808) : lg_cmp (Int64.ofInt x) (Int64.ofInt y) = Int32.ofInt (if y < x then 1 else if x = y then 0 else -1) := by
  unfold lg_cmp
  simp only [GT.gt, lz_lt h3 h4 h1 h2, lz_lt h1 h2 h3 h4, lz_eq h1 h2 h3 h4, beq_iff_eq]
  by_cases q : y < x
  · simp [q]
  · by_cases q1 : x = y
    · simp [q, q1]
    · simp [q, q1]
theorem lz_rv {x y : Int} (h1 : -9223372036854775808 ≤ x) (h2 : x < 9223372036854775808) (h3 : -9223372036854775808 ≤ y) (h4 : y < 9223372036854775808) : (some (Value.long (Int64.ofInt x)) = some (Value.long (Int64.ofInt y))) = (x = y) := by
  refine propext ⟨fun h => ?_, fun h => by rw [h]⟩
  injection h with h
  injection h with h
  exact (lz_eq h1 h2 h3 h4).mp h
theorem lc_gt {x y : Int} (h1 : -9223372036854775808 ≤ x) (h2 : x < 9223372036854775808) (h3 : -9223372036854775808 ≤ y) (h4 : y < 9223372036854775808) : (0 < lg_cmp (Int64.ofInt x) (Int64.ofInt y)) = (y < x) := by
  rw [lz_cmp h1 h2 h3 h4]
  by_cases q : y < x
  · simp [q]
  · by_cases q1 : x = y
    · simp [q1]
    · simp [q, q1]
theorem lc_le {x y : Int} (h1 : -9223372036854775808 ≤ x) (h2 : x < 9223372036854775808) (h3 : -9223372036854775808 ≤ y) (h4 : y < 9223372036854775808) : (lg_cmp (Int64.ofInt x) (Int64.ofInt y) ≤ 0) = (x ≤ y) := by
  have h := lc_gt h1 h2 h3 h4
  refine propext ⟨fun q => ?_, fun q => ?_⟩
  · have : ¬ (0 < lg_cmp (Int64.ofInt x) (Int64.ofInt y)) := Int32.not_lt.mpr q
    rw [h] at this
    omega
  · exact Int32.not_lt.mp (by rw [h]; omega)
theorem lc_eq {x y : Int} (h1 : -9223372036854775808 ≤ x) (h2 : x < 9223372036854775808) (h3 : -9223372036854775808 ≤ y) (h4 : y < 9223372036854775808) : (lg_cmp (Int64.ofInt x) (Int64.ofInt y) = 0) = (x = y) := by
  rw [lz_cmp h1 h2 h3 h4]
  by_cases q : y < x
  · have : ¬ x = y := by omega
    simp [q, this]
  · by_cases q1 : x = y
    · simp [q1]
    · simp [q, q1]
theorem lc_0gt {x y : Int} (h1 : -9223372036854775808 ≤ x) (h2 : x < 9223372036854775808) (h3 : -9223372036854775808 ≤ y) (h4 : y < 9223372036854775808) : (Int32.ofInt 0 < lg_cmp (Int64.ofInt x) (Int64.ofInt y)) = (y < x) := lc_gt h1 h2 h3 h4
theorem az_up_ee {S : az_M} {k : Nat} {i v : Int} : az_up S k i v k i = v := by rw [az_up_ap, if_pos rfl, if_pos rfl]
theorem az_up_en {S : az_M} {k : Nat} {i v j : Int} (h : j ≠ i) : az_up S k i v k j = S k j := by rw [az_up_ap, if_pos rfl, if_neg h]
theorem az_up_kn {S : az_M} {k k1 : Nat} {i v j : Int} (h : k1 ≠ k) : az_up S k i v k1 j = S k1 j := by rw [az_up_ap, if_neg h]
/-- a number as an int, as a long, holds it -/
def az_w (x : Int) : Int := (Int32.ofInt x).toInt
def az_v (x : Int) : Int := (Int64.ofInt x).toInt
theorem az_w_r (x : Int) : -2147483648 ≤ az_w x ∧ az_w x < 2147483648 := ⟨Int32.le_toInt _, Int32.toInt_lt _⟩
theorem az_v_r (x : Int) : -9223372036854775808 ≤ az_v x ∧ az_v x < 9223372036854775808 := ⟨Int64.le_toInt _, Int64.toInt_lt _⟩
theorem az_w_id {x : Int} (h1 : -2147483648 ≤ x) (h2 : x < 2147483648) : az_w x = x := az_toInt h1 h2
