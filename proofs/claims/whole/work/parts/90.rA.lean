-- deps: 43.cls
/-! ===== sets of stages as bits ===== -/
section RgA
variable {P Q : Int → Bool} {s : Int}
def bmN (P : Int → Bool) : Nat → BitVec 32
  | 0 => 0#32
  | n + 1 => bmN P n ||| (if P n = true then BitVec.twoPow 32 n else 0#32)
def bm (P : Int → Bool) : Int32 := Int32.ofBitVec (bmN P 12)
theorem bmN_g {i : Nat} : ∀ n : Nat, n ≤ 32 → (bmN P n).getLsbD i = (decide (i < n) && P i)
  | 0, _ => by
    show (0#32).getLsbD i = _
    rw [BitVec.getLsbD_zero, decide_eq_false (by omega)]
    rfl
  | n + 1, h => by
    show (bmN P n ||| (if P n = true then BitVec.twoPow 32 n else 0#32)).getLsbD i = _
    rw [BitVec.getLsbD_or, bmN_g n (by omega)]
    by_cases e : i = n
    · subst e
      rw [decide_eq_false (show ¬ i < i by omega), decide_eq_true (show i < i + 1 by omega)]
      cases c : P i
      · rw [if_neg (by decide), BitVec.getLsbD_zero]; rfl
      · rw [if_pos rfl, BitVec.getLsbD_twoPow, decide_eq_true (show i < 32 by omega), decide_eq_true rfl]; rfl
    · have z : (if P n = true then BitVec.twoPow 32 n else 0#32).getLsbD i = false := by
        split
        · rw [BitVec.getLsbD_twoPow, decide_eq_false (show ¬ n = i by omega), Bool.and_false]
        · exact BitVec.getLsbD_zero
      rw [z, Bool.or_false]
      by_cases c : i < n
      · rw [decide_eq_true c, decide_eq_true (show i < n + 1 by omega)]
      · rw [decide_eq_false c, decide_eq_false (show ¬ i < n + 1 by omega)]
theorem bm_g {i : Nat} : (bm P).toBitVec.getLsbD i = (decide (i < 12) && P i) := bmN_g 12 (by decide)
theorem bm_x {x : Int32} (h : ∀ i, i < 32 → x.toBitVec.getLsbD i = (decide (i < 12) && P i)) : x = bm P := by
  apply Int32.toBitVec_inj.mp
  apply BitVec.eq_of_getLsbD_eq
  intro i hi
  rw [h i hi, bm_g]
theorem bm_cg (h : ∀ t, 0 ≤ t → t < 12 → P t = Q t) : bm P = bm Q := by
  apply bm_x
  intro i _
  rw [bm_g]
  by_cases c : i < 12
  · rw [h i (by omega) (by omega)]
  · rw [decide_eq_false c]; rfl
theorem bm_e : Int32.ofInt 0 = bm (fun _ => false) := by decide +kernel
theorem bm_oo : bm P ||| bm Q = bm (fun t => P t || Q t) := by
  apply bm_x
  intro i _
  rw [Int32.toBitVec_or, BitVec.getLsbD_or, bm_g, bm_g, Bool.and_or_distrib_left]
theorem bm_sh (h0 : 0 ≤ s) (h1 : s < 12) : Int32.ofInt 1 <<< (Int32.ofInt s &&& 31) = bm (fun t => decide (t = s)) := by
  rcases (show s = 0 ∨ s = 1 ∨ s = 2 ∨ s = 3 ∨ s = 4 ∨ s = 5 ∨ s = 6 ∨ s = 7 ∨ s = 8 ∨ s = 9 ∨ s = 10 ∨ s = 11 by omega) with rfl | rfl | rfl | rfl | rfl | rfl | rfl | rfl | rfl | rfl | rfl | rfl <;> decide +kernel
theorem bm_and : (bm P &&& bm Q = 0) ↔ ∀ t, 0 ≤ t → t < 12 → ¬ (P t = true ∧ Q t = true) := by
  constructor
  · intro h t t1 t2 w
    have q : (bm P &&& bm Q).toBitVec.getLsbD t.toNat = false := by rw [h]; exact BitVec.getLsbD_zero
    have e : ((t.toNat : Nat) : Int) = t := by omega
    rw [Int32.toBitVec_and, BitVec.getLsbD_and, bm_g, bm_g, e, w.1, w.2, decide_eq_true (by omega)] at q
    exact absurd q (by decide)
  · intro h
    apply Int32.toBitVec_inj.mp
    apply BitVec.eq_of_getLsbD_eq
    intro i _
    rw [Int32.toBitVec_and, BitVec.getLsbD_and, bm_g, bm_g]
    show _ = (0#32).getLsbD i
    rw [BitVec.getLsbD_zero]
    by_cases c : i < 12
    · have := h i (by omega) (by omega)
      cases a : P i <;> cases b : Q i <;> simp_all
    · rw [decide_eq_false c]; rfl
theorem bm_i : Int32.ofInt (bm P).toInt = bm P := Int32.ofInt_toInt _
end RgA
