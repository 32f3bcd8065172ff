-- deps: 30.mK 31.mL
/-! ===== the reference: a NEW OBJECT ===== -/
section UA
variable {C : az_Cl} {Q : Option Value → az_H → Prop} {r n : Nat} {S : az_M} {g : Nat → az_C} {lv : az_L}
def S0 : az_M := fun k i => if 0 ≤ i ∧ i < 12 then (if k = 17 then 5 else if k = 21 ∨ k = 22 then -1 else 0) else 0
def S00 : az_M := fun _ _ => 0
def ri_P (r : Nat) (i : Nat) (L : List Value) (g : Nat → az_C) : Nat → az_C := fun a => if a = r then az_ob 11 L else if r < a ∧ a ≤ r + i then az_cR S00 r (a - r) else g a
theorem mp_ob {ci k : Nat} {v : Value} {t : Int} {L : List Value} {K : az_C → Prop} (hk : k < L.length) (hf : az_fit t v = true) (h : K (az_ob ci (L.set k v))) : az_mp (az_ob ci L) ci k t v K := by
  unfold az_mp
  rw [show az_obs (az_ob ci L) ci k v = some (az_ob ci (L.set k v)) from if_pos ⟨rfl, hk⟩]
  exact ⟨hf, h⟩
theorem ri_st {k i N : Nat} {L : List Value} {c : az_C} (hk : k < L.length) (hc : az_cR S00 r (i + 1) = c) {K : az_H → Prop} (h : K (ri_P r (i + 1) (L.set k (.ref (r + (i + 1)))) g, r + (i + 2), n + N)) : az_mp ((az_nw (ri_P r i L g, r + (i + 1), n) c N).1 r) 11 k 3 (.ref (r + (i + 1))) (fun d => K (az_uh (az_nw (ri_P r i L g, r + (i + 1), n) c N) r d)) := by
  have e1 : (az_nw (ri_P r i L g, r + (i + 1), n) c N).1 r = az_ob 11 L := by
    show va_up (ri_P r i L g) (r + (i + 1)) c r = _
    unfold va_up ri_P
    rw [if_neg (by omega), if_pos rfl]
  have e2 : az_uh (az_nw (ri_P r i L g, r + (i + 1), n) c N) r (az_ob 11 (L.set k (.ref (r + (i + 1))))) = (ri_P r (i + 1) (L.set k (.ref (r + (i + 1)))) g, r + (i + 2), n + N) := by
    unfold az_uh az_nw
    refine Prod.ext ?_ rfl
    funext x
    show va_up (va_up (ri_P r i L g) (r + (i + 1)) c) r _ x = ri_P r (i + 1) (L.set k (.ref (r + (i + 1)))) g x
    unfold va_up ri_P
    by_cases q : x = r
    · rw [if_pos q, if_pos q]
    · simp only [if_neg q]
      by_cases q1 : x = r + (i + 1)
      · rw [if_pos q1, if_pos (by omega), q1, Nat.add_sub_cancel_left, hc]
      · rw [if_neg q1]
        by_cases q2 : r < x ∧ x ≤ r + i
        · rw [if_pos q2, if_pos (by omega)]
        · rw [if_neg q2, if_neg (by omega)]
  rw [e1]
  refine mp_ob hk rfl ?_
  show K _
  rw [e2]
  exact h
theorem ri_b0 {L : List Value} (l0 : lv 0 = some (.ref r)) (hl : L.length = 55) (h : az_p133 C Q (12, lv, [], (ri_P r 1 (L.set 3 (.ref (r + 1))) g, r + 2, n + 16))) : az_p133 C Q (4, lv, [], (ri_P r 0 L g, r + 1, n)) := by
  rw [az_s133_4, l0, az_ma_r, az_s133_5, az_s133_7]
  refine ⟨by decide, ?_⟩
  rw [az_s133_9]
  exact ri_st (c := az_ia 0 (Int32.ofInt 16).toInt.toNat (fun _ => 0)) (by omega) rfl (K := fun x => az_p133 C Q (12, lv, [], x)) h
theorem ri_b1 {L : List Value} (l0 : lv 0 = some (.ref r)) (hl : L.length = 55) (h : az_p133 C Q (20, lv, [], (ri_P r 2 (L.set 4 (.ref (r + 2))) g, r + 3, n + 16))) : az_p133 C Q (12, lv, [], (ri_P r 1 L g, r + 2, n)) := by
  rw [az_s133_12, l0, az_ma_r, az_s133_13, az_s133_15]
  refine ⟨by decide, ?_⟩
  rw [az_s133_17]
  exact ri_st (c := az_ia 0 (Int32.ofInt 16).toInt.toNat (fun _ => 0)) (by omega) rfl (K := fun x => az_p133 C Q (20, lv, [], x)) h
theorem ri_b2 {L : List Value} (l0 : lv 0 = some (.ref r)) (hl : L.length = 55) (h : az_p133 C Q (29, lv, [], (ri_P r 3 (L.set 5 (.ref (r + 3))) g, r + 4, n + 640))) : az_p133 C Q (20, lv, [], (ri_P r 2 L g, r + 3, n)) := by
  rw [az_s133_20, l0, az_ma_r, az_s133_21, az_s133_24]
  refine ⟨by decide, ?_⟩
  rw [az_s133_26]
  exact ri_st (c := az_ia 0 (Int32.ofInt 640).toInt.toNat (fun _ => 0)) (by omega) rfl (K := fun x => az_p133 C Q (29, lv, [], x)) h
theorem ri_b3 {L : List Value} (l0 : lv 0 = some (.ref r)) (hl : L.length = 55) (h : az_p133 C Q (37, lv, [], (ri_P r 4 (L.set 6 (.ref (r + 4))) g, r + 5, n + 16))) : az_p133 C Q (29, lv, [], (ri_P r 3 L g, r + 4, n)) := by
  rw [az_s133_29, l0, az_ma_r, az_s133_30, az_s133_32]
  refine ⟨by decide, ?_⟩
  rw [az_s133_34]
  exact ri_st (c := az_ia 0 (Int32.ofInt 16).toInt.toNat (fun _ => 0)) (by omega) rfl (K := fun x => az_p133 C Q (37, lv, [], x)) h
theorem ri_b4 {L : List Value} (l0 : lv 0 = some (.ref r)) (hl : L.length = 55) (h : az_p133 C Q (45, lv, [], (ri_P r 5 (L.set 7 (.ref (r + 5))) g, r + 6, n + 12))) : az_p133 C Q (37, lv, [], (ri_P r 4 L g, r + 5, n)) := by
  rw [az_s133_37, l0, az_ma_r, az_s133_38, az_s133_40]
  refine ⟨by decide, ?_⟩
  rw [az_s133_42]
  exact ri_st (c := az_ia 1 (Int32.ofInt 12).toInt.toNat (fun _ => 0)) (by omega) rfl (K := fun x => az_p133 C Q (45, lv, [], x)) h
theorem ri_b5 {L : List Value} (l0 : lv 0 = some (.ref r)) (hl : L.length = 55) (h : az_p133 C Q (53, lv, [], (ri_P r 6 (L.set 8 (.ref (r + 6))) g, r + 7, n + 12))) : az_p133 C Q (45, lv, [], (ri_P r 5 L g, r + 6, n)) := by
  rw [az_s133_45, l0, az_ma_r, az_s133_46, az_s133_48]
  refine ⟨by decide, ?_⟩
  rw [az_s133_50]
  exact ri_st (c := az_ia 0 (Int32.ofInt 12).toInt.toNat (fun _ => 0)) (by omega) rfl (K := fun x => az_p133 C Q (53, lv, [], x)) h
theorem ri_b6 {L : List Value} (l0 : lv 0 = some (.ref r)) (hl : L.length = 55) (h : az_p133 C Q (61, lv, [], (ri_P r 7 (L.set 9 (.ref (r + 7))) g, r + 8, n + 12))) : az_p133 C Q (53, lv, [], (ri_P r 6 L g, r + 7, n)) := by
  rw [az_s133_53, l0, az_ma_r, az_s133_54, az_s133_56]
  refine ⟨by decide, ?_⟩
  rw [az_s133_58]
  exact ri_st (c := az_ia 0 (Int32.ofInt 12).toInt.toNat (fun _ => 0)) (by omega) rfl (K := fun x => az_p133 C Q (61, lv, [], x)) h
theorem ri_b7 {L : List Value} (l0 : lv 0 = some (.ref r)) (hl : L.length = 55) (h : az_p133 C Q (69, lv, [], (ri_P r 8 (L.set 10 (.ref (r + 8))) g, r + 9, n + 12))) : az_p133 C Q (61, lv, [], (ri_P r 7 L g, r + 8, n)) := by
  rw [az_s133_61, l0, az_ma_r, az_s133_62, az_s133_64]
  refine ⟨by decide, ?_⟩
  rw [az_s133_66]
  exact ri_st (c := az_ia 0 (Int32.ofInt 12).toInt.toNat (fun _ => 0)) (by omega) rfl (K := fun x => az_p133 C Q (69, lv, [], x)) h
theorem ri_b8 {L : List Value} (l0 : lv 0 = some (.ref r)) (hl : L.length = 55) (h : az_p133 C Q (77, lv, [], (ri_P r 9 (L.set 11 (.ref (r + 9))) g, r + 10, n + 12))) : az_p133 C Q (69, lv, [], (ri_P r 8 L g, r + 9, n)) := by
  rw [az_s133_69, l0, az_ma_r, az_s133_70, az_s133_72]
  refine ⟨by decide, ?_⟩
  rw [az_s133_74]
  exact ri_st (c := az_ia 0 (Int32.ofInt 12).toInt.toNat (fun _ => 0)) (by omega) rfl (K := fun x => az_p133 C Q (77, lv, [], x)) h
theorem ri_b9 {L : List Value} (l0 : lv 0 = some (.ref r)) (hl : L.length = 55) (h : az_p133 C Q (85, lv, [], (ri_P r 10 (L.set 12 (.ref (r + 10))) g, r + 11, n + 24))) : az_p133 C Q (77, lv, [], (ri_P r 9 L g, r + 10, n)) := by
  rw [az_s133_77, l0, az_ma_r, az_s133_78, az_s133_80]
  refine ⟨by decide, ?_⟩
  rw [az_s133_82]
  exact ri_st (c := az_ia 0 (Int32.ofInt 24).toInt.toNat (fun _ => 0)) (by omega) rfl (K := fun x => az_p133 C Q (85, lv, [], x)) h
theorem ri_b10 {L : List Value} (l0 : lv 0 = some (.ref r)) (hl : L.length = 55) (h : az_p133 C Q (93, lv, [], (ri_P r 11 (L.set 13 (.ref (r + 11))) g, r + 12, n + 12))) : az_p133 C Q (85, lv, [], (ri_P r 10 L g, r + 11, n)) := by
  rw [az_s133_85, l0, az_ma_r, az_s133_86, az_s133_88]
  refine ⟨by decide, ?_⟩
  rw [az_s133_90]
  exact ri_st (c := az_ia 0 (Int32.ofInt 12).toInt.toNat (fun _ => 0)) (by omega) rfl (K := fun x => az_p133 C Q (93, lv, [], x)) h
theorem ri_b11 {L : List Value} (l0 : lv 0 = some (.ref r)) (hl : L.length = 55) (h : az_p133 C Q (101, lv, [], (ri_P r 12 (L.set 14 (.ref (r + 12))) g, r + 13, n + 36))) : az_p133 C Q (93, lv, [], (ri_P r 11 L g, r + 12, n)) := by
  rw [az_s133_93, l0, az_ma_r, az_s133_94, az_s133_96]
  refine ⟨by decide, ?_⟩
  rw [az_s133_98]
  exact ri_st (c := az_ia 0 (Int32.ofInt 36).toInt.toNat (fun _ => 0)) (by omega) rfl (K := fun x => az_p133 C Q (101, lv, [], x)) h
theorem ri_b12 {L : List Value} (l0 : lv 0 = some (.ref r)) (hl : L.length = 55) (h : az_p133 C Q (109, lv, [], (ri_P r 13 (L.set 15 (.ref (r + 13))) g, r + 14, n + 36))) : az_p133 C Q (101, lv, [], (ri_P r 12 L g, r + 13, n)) := by
  rw [az_s133_101, l0, az_ma_r, az_s133_102, az_s133_104]
  refine ⟨by decide, ?_⟩
  rw [az_s133_106]
  exact ri_st (c := az_ia 0 (Int32.ofInt 36).toInt.toNat (fun _ => 0)) (by omega) rfl (K := fun x => az_p133 C Q (109, lv, [], x)) h
theorem ri_b13 {L : List Value} (l0 : lv 0 = some (.ref r)) (hl : L.length = 55) (h : az_p133 C Q (117, lv, [], (ri_P r 14 (L.set 16 (.ref (r + 14))) g, r + 15, n + 36))) : az_p133 C Q (109, lv, [], (ri_P r 13 L g, r + 14, n)) := by
  rw [az_s133_109, l0, az_ma_r, az_s133_110, az_s133_112]
  refine ⟨by decide, ?_⟩
  rw [az_s133_114]
  exact ri_st (c := az_ia 0 (Int32.ofInt 36).toInt.toNat (fun _ => 0)) (by omega) rfl (K := fun x => az_p133 C Q (117, lv, [], x)) h
theorem ri_b14 {L : List Value} (l0 : lv 0 = some (.ref r)) (hl : L.length = 55) (h : az_p133 C Q (125, lv, [], (ri_P r 15 (L.set 17 (.ref (r + 15))) g, r + 16, n + 12))) : az_p133 C Q (117, lv, [], (ri_P r 14 L g, r + 15, n)) := by
  rw [az_s133_117, l0, az_ma_r, az_s133_118, az_s133_120]
  refine ⟨by decide, ?_⟩
  rw [az_s133_122]
  exact ri_st (c := az_ia 0 (Int32.ofInt 12).toInt.toNat (fun _ => 0)) (by omega) rfl (K := fun x => az_p133 C Q (125, lv, [], x)) h
theorem ri_b15 {L : List Value} (l0 : lv 0 = some (.ref r)) (hl : L.length = 55) (h : az_p133 C Q (133, lv, [], (ri_P r 16 (L.set 18 (.ref (r + 16))) g, r + 17, n + 12))) : az_p133 C Q (125, lv, [], (ri_P r 15 L g, r + 16, n)) := by
  rw [az_s133_125, l0, az_ma_r, az_s133_126, az_s133_128]
  refine ⟨by decide, ?_⟩
  rw [az_s133_130]
  exact ri_st (c := az_ia 0 (Int32.ofInt 12).toInt.toNat (fun _ => 0)) (by omega) rfl (K := fun x => az_p133 C Q (133, lv, [], x)) h
theorem ri_b16 {L : List Value} (l0 : lv 0 = some (.ref r)) (hl : L.length = 55) (h : az_p133 C Q (141, lv, [], (ri_P r 17 (L.set 19 (.ref (r + 17))) g, r + 18, n + 12))) : az_p133 C Q (133, lv, [], (ri_P r 16 L g, r + 17, n)) := by
  rw [az_s133_133, l0, az_ma_r, az_s133_134, az_s133_136]
  refine ⟨by decide, ?_⟩
  rw [az_s133_138]
  exact ri_st (c := az_ia 0 (Int32.ofInt 12).toInt.toNat (fun _ => 0)) (by omega) rfl (K := fun x => az_p133 C Q (141, lv, [], x)) h
theorem ri_b17 {L : List Value} (l0 : lv 0 = some (.ref r)) (hl : L.length = 55) (h : az_p133 C Q (149, lv, [], (ri_P r 18 (L.set 20 (.ref (r + 18))) g, r + 19, n + 12))) : az_p133 C Q (141, lv, [], (ri_P r 17 L g, r + 18, n)) := by
  rw [az_s133_141, l0, az_ma_r, az_s133_142, az_s133_144]
  refine ⟨by decide, ?_⟩
  rw [az_s133_146]
  exact ri_st (c := az_ia 1 (Int32.ofInt 12).toInt.toNat (fun _ => 0)) (by omega) rfl (K := fun x => az_p133 C Q (149, lv, [], x)) h
theorem ri_b18 {L : List Value} (l0 : lv 0 = some (.ref r)) (hl : L.length = 55) (h : az_p133 C Q (157, lv, [], (ri_P r 19 (L.set 21 (.ref (r + 19))) g, r + 20, n + 12))) : az_p133 C Q (149, lv, [], (ri_P r 18 L g, r + 19, n)) := by
  rw [az_s133_149, l0, az_ma_r, az_s133_150, az_s133_152]
  refine ⟨by decide, ?_⟩
  rw [az_s133_154]
  exact ri_st (c := az_ia 0 (Int32.ofInt 12).toInt.toNat (fun _ => 0)) (by omega) rfl (K := fun x => az_p133 C Q (157, lv, [], x)) h
theorem ri_b19 {L : List Value} (l0 : lv 0 = some (.ref r)) (hl : L.length = 55) (h : az_p133 C Q (165, lv, [], (ri_P r 20 (L.set 22 (.ref (r + 20))) g, r + 21, n + 12))) : az_p133 C Q (157, lv, [], (ri_P r 19 L g, r + 20, n)) := by
  rw [az_s133_157, l0, az_ma_r, az_s133_158, az_s133_160]
  refine ⟨by decide, ?_⟩
  rw [az_s133_162]
  exact ri_st (c := az_ia 0 (Int32.ofInt 12).toInt.toNat (fun _ => 0)) (by omega) rfl (K := fun x => az_p133 C Q (165, lv, [], x)) h
theorem ri_b20 {L : List Value} (l0 : lv 0 = some (.ref r)) (hl : L.length = 55) (h : az_p133 C Q (173, lv, [], (ri_P r 21 (L.set 23 (.ref (r + 21))) g, r + 22, n + 12))) : az_p133 C Q (165, lv, [], (ri_P r 20 L g, r + 21, n)) := by
  rw [az_s133_165, l0, az_ma_r, az_s133_166, az_s133_168]
  refine ⟨by decide, ?_⟩
  rw [az_s133_170]
  exact ri_st (c := az_ia 0 (Int32.ofInt 12).toInt.toNat (fun _ => 0)) (by omega) rfl (K := fun x => az_p133 C Q (173, lv, [], x)) h
theorem ri_b21 {L : List Value} (l0 : lv 0 = some (.ref r)) (hl : L.length = 55) (h : az_p133 C Q (181, lv, [], (ri_P r 22 (L.set 24 (.ref (r + 22))) g, r + 23, n + 36))) : az_p133 C Q (173, lv, [], (ri_P r 21 L g, r + 22, n)) := by
  rw [az_s133_173, l0, az_ma_r, az_s133_174, az_s133_176]
  refine ⟨by decide, ?_⟩
  rw [az_s133_178]
  exact ri_st (c := az_la (Int32.ofInt 36).toInt.toNat (fun _ => 0)) (by omega) rfl (K := fun x => az_p133 C Q (181, lv, [], x)) h
theorem ri_b22 {L : List Value} (l0 : lv 0 = some (.ref r)) (hl : L.length = 55) (h : az_p133 C Q (189, lv, [], (ri_P r 23 (L.set 25 (.ref (r + 23))) g, r + 24, n + 36))) : az_p133 C Q (181, lv, [], (ri_P r 22 L g, r + 23, n)) := by
  rw [az_s133_181, l0, az_ma_r, az_s133_182, az_s133_184]
  refine ⟨by decide, ?_⟩
  rw [az_s133_186]
  exact ri_st (c := az_ia 0 (Int32.ofInt 36).toInt.toNat (fun _ => 0)) (by omega) rfl (K := fun x => az_p133 C Q (189, lv, [], x)) h
theorem ri_b23 {L : List Value} (l0 : lv 0 = some (.ref r)) (hl : L.length = 55) (h : az_p133 C Q (197, lv, [], (ri_P r 24 (L.set 26 (.ref (r + 24))) g, r + 25, n + 36))) : az_p133 C Q (189, lv, [], (ri_P r 23 L g, r + 24, n)) := by
  rw [az_s133_189, l0, az_ma_r, az_s133_190, az_s133_192]
  refine ⟨by decide, ?_⟩
  rw [az_s133_194]
  exact ri_st (c := az_ia 0 (Int32.ofInt 36).toInt.toNat (fun _ => 0)) (by omega) rfl (K := fun x => az_p133 C Q (197, lv, [], x)) h
theorem ri_b24 {L : List Value} (l0 : lv 0 = some (.ref r)) (hl : L.length = 55) (h : az_p133 C Q (205, lv, [], (ri_P r 25 (L.set 27 (.ref (r + 25))) g, r + 26, n + 120))) : az_p133 C Q (197, lv, [], (ri_P r 24 L g, r + 25, n)) := by
  rw [az_s133_197, l0, az_ma_r, az_s133_198, az_s133_200]
  refine ⟨by decide, ?_⟩
  rw [az_s133_202]
  exact ri_st (c := az_la (Int32.ofInt 120).toInt.toNat (fun _ => 0)) (by omega) rfl (K := fun x => az_p133 C Q (205, lv, [], x)) h
theorem ri_b25 {L : List Value} (l0 : lv 0 = some (.ref r)) (hl : L.length = 55) (h : az_p133 C Q (213, lv, [], (ri_P r 26 (L.set 28 (.ref (r + 26))) g, r + 27, n + 12))) : az_p133 C Q (205, lv, [], (ri_P r 25 L g, r + 26, n)) := by
  rw [az_s133_205, l0, az_ma_r, az_s133_206, az_s133_208]
  refine ⟨by decide, ?_⟩
  rw [az_s133_210]
  exact ri_st (c := az_ia 0 (Int32.ofInt 12).toInt.toNat (fun _ => 0)) (by omega) rfl (K := fun x => az_p133 C Q (213, lv, [], x)) h
theorem ri_b26 {L : List Value} (l0 : lv 0 = some (.ref r)) (hl : L.length = 55) (h : az_p133 C Q (221, lv, [], (ri_P r 27 (L.set 29 (.ref (r + 27))) g, r + 28, n + 12))) : az_p133 C Q (213, lv, [], (ri_P r 26 L g, r + 27, n)) := by
  rw [az_s133_213, l0, az_ma_r, az_s133_214, az_s133_216]
  refine ⟨by decide, ?_⟩
  rw [az_s133_218]
  exact ri_st (c := az_ia 0 (Int32.ofInt 12).toInt.toNat (fun _ => 0)) (by omega) rfl (K := fun x => az_p133 C Q (221, lv, [], x)) h
theorem ri_b27 {L : List Value} (l0 : lv 0 = some (.ref r)) (hl : L.length = 55) (h : az_p133 C Q (229, lv, [], (ri_P r 28 (L.set 30 (.ref (r + 28))) g, r + 29, n + 12))) : az_p133 C Q (221, lv, [], (ri_P r 27 L g, r + 28, n)) := by
  rw [az_s133_221, l0, az_ma_r, az_s133_222, az_s133_224]
  refine ⟨by decide, ?_⟩
  rw [az_s133_226]
  exact ri_st (c := az_ia 0 (Int32.ofInt 12).toInt.toNat (fun _ => 0)) (by omega) rfl (K := fun x => az_p133 C Q (229, lv, [], x)) h
theorem ri_b28 {L : List Value} (l0 : lv 0 = some (.ref r)) (hl : L.length = 55) (h : az_p133 C Q (237, lv, [], (ri_P r 29 (L.set 31 (.ref (r + 29))) g, r + 30, n + 12))) : az_p133 C Q (229, lv, [], (ri_P r 28 L g, r + 29, n)) := by
  rw [az_s133_229, l0, az_ma_r, az_s133_230, az_s133_232]
  refine ⟨by decide, ?_⟩
  rw [az_s133_234]
  exact ri_st (c := az_ia 0 (Int32.ofInt 12).toInt.toNat (fun _ => 0)) (by omega) rfl (K := fun x => az_p133 C Q (237, lv, [], x)) h
theorem ri_b29 {L : List Value} (l0 : lv 0 = some (.ref r)) (hl : L.length = 55) (h : az_p133 C Q (245, lv, [], (ri_P r 30 (L.set 32 (.ref (r + 30))) g, r + 31, n + 12))) : az_p133 C Q (237, lv, [], (ri_P r 29 L g, r + 30, n)) := by
  rw [az_s133_237, l0, az_ma_r, az_s133_238, az_s133_240]
  refine ⟨by decide, ?_⟩
  rw [az_s133_242]
  exact ri_st (c := az_ia 0 (Int32.ofInt 12).toInt.toNat (fun _ => 0)) (by omega) rfl (K := fun x => az_p133 C Q (245, lv, [], x)) h
theorem ri_b30 {L : List Value} (l0 : lv 0 = some (.ref r)) (hl : L.length = 55) (h : az_p133 C Q (254, lv, [], (ri_P r 31 (L.set 34 (.ref (r + 31))) g, r + 32, n + 1500))) : az_p133 C Q (245, lv, [], (ri_P r 30 L g, r + 31, n)) := by
  rw [az_s133_245, l0, az_ma_r, az_s133_246, az_s133_249]
  refine ⟨by decide, ?_⟩
  rw [az_s133_251]
  exact ri_st (c := az_la (Int32.ofInt 1500).toInt.toNat (fun _ => 0)) (by omega) rfl (K := fun x => az_p133 C Q (254, lv, [], x)) h
theorem ri_b31 {L : List Value} (l0 : lv 0 = some (.ref r)) (hl : L.length = 55) (h : az_p133 C Q (263, lv, [], (ri_P r 32 (L.set 35 (.ref (r + 32))) g, r + 33, n + 1500))) : az_p133 C Q (254, lv, [], (ri_P r 31 L g, r + 32, n)) := by
  rw [az_s133_254, l0, az_ma_r, az_s133_255, az_s133_258]
  refine ⟨by decide, ?_⟩
  rw [az_s133_260]
  exact ri_st (c := az_ia 0 (Int32.ofInt 1500).toInt.toNat (fun _ => 0)) (by omega) rfl (K := fun x => az_p133 C Q (263, lv, [], x)) h
theorem ri_b32 {L : List Value} (l0 : lv 0 = some (.ref r)) (hl : L.length = 55) (h : az_p133 C Q (272, lv, [], (ri_P r 33 (L.set 36 (.ref (r + 33))) g, r + 34, n + 1500))) : az_p133 C Q (263, lv, [], (ri_P r 32 L g, r + 33, n)) := by
  rw [az_s133_263, l0, az_ma_r, az_s133_264, az_s133_267]
  refine ⟨by decide, ?_⟩
  rw [az_s133_269]
  exact ri_st (c := az_ia 0 (Int32.ofInt 1500).toInt.toNat (fun _ => 0)) (by omega) rfl (K := fun x => az_p133 C Q (272, lv, [], x)) h
theorem ri_b33 {L : List Value} (l0 : lv 0 = some (.ref r)) (hl : L.length = 55) (h : az_p133 C Q (281, lv, [], (ri_P r 34 (L.set 37 (.ref (r + 34))) g, r + 35, n + 6000))) : az_p133 C Q (272, lv, [], (ri_P r 33 L g, r + 34, n)) := by
  rw [az_s133_272, l0, az_ma_r, az_s133_273, az_s133_276]
  refine ⟨by decide, ?_⟩
  rw [az_s133_278]
  exact ri_st (c := az_ia 0 (Int32.ofInt 6000).toInt.toNat (fun _ => 0)) (by omega) rfl (K := fun x => az_p133 C Q (281, lv, [], x)) h
theorem ri_b34 {L : List Value} (l0 : lv 0 = some (.ref r)) (hl : L.length = 55) (h : az_p133 C Q (289, lv, [], (ri_P r 35 (L.set 39 (.ref (r + 35))) g, r + 36, n + 40))) : az_p133 C Q (281, lv, [], (ri_P r 34 L g, r + 35, n)) := by
  rw [az_s133_281, l0, az_ma_r, az_s133_282, az_s133_284]
  refine ⟨by decide, ?_⟩
  rw [az_s133_286]
  exact ri_st (c := az_ia 0 (Int32.ofInt 40).toInt.toNat (fun _ => 0)) (by omega) rfl (K := fun x => az_p133 C Q (289, lv, [], x)) h
theorem ri_b35 {L : List Value} (l0 : lv 0 = some (.ref r)) (hl : L.length = 55) (h : az_p133 C Q (297, lv, [], (ri_P r 36 (L.set 40 (.ref (r + 36))) g, r + 37, n + 40))) : az_p133 C Q (289, lv, [], (ri_P r 35 L g, r + 36, n)) := by
  rw [az_s133_289, l0, az_ma_r, az_s133_290, az_s133_292]
  refine ⟨by decide, ?_⟩
  rw [az_s133_294]
  exact ri_st (c := az_ia 0 (Int32.ofInt 40).toInt.toNat (fun _ => 0)) (by omega) rfl (K := fun x => az_p133 C Q (297, lv, [], x)) h
theorem ri_b36 {L : List Value} (l0 : lv 0 = some (.ref r)) (hl : L.length = 55) (h : az_p133 C Q (305, lv, [], (ri_P r 37 (L.set 41 (.ref (r + 37))) g, r + 38, n + 40))) : az_p133 C Q (297, lv, [], (ri_P r 36 L g, r + 37, n)) := by
  rw [az_s133_297, l0, az_ma_r, az_s133_298, az_s133_300]
  refine ⟨by decide, ?_⟩
  rw [az_s133_302]
  exact ri_st (c := az_ia 0 (Int32.ofInt 40).toInt.toNat (fun _ => 0)) (by omega) rfl (K := fun x => az_p133 C Q (305, lv, [], x)) h
theorem ri_b37 {L : List Value} (l0 : lv 0 = some (.ref r)) (hl : L.length = 55) (h : az_p133 C Q (313, lv, [], (ri_P r 38 (L.set 42 (.ref (r + 38))) g, r + 39, n + 40))) : az_p133 C Q (305, lv, [], (ri_P r 37 L g, r + 38, n)) := by
  rw [az_s133_305, l0, az_ma_r, az_s133_306, az_s133_308]
  refine ⟨by decide, ?_⟩
  rw [az_s133_310]
  exact ri_st (c := az_ia 1 (Int32.ofInt 40).toInt.toNat (fun _ => 0)) (by omega) rfl (K := fun x => az_p133 C Q (313, lv, [], x)) h
theorem ri_b38 {L : List Value} (l0 : lv 0 = some (.ref r)) (hl : L.length = 55) (h : az_p133 C Q (322, lv, [], (ri_P r 39 (L.set 44 (.ref (r + 39))) g, r + 40, n + 1600))) : az_p133 C Q (313, lv, [], (ri_P r 38 L g, r + 39, n)) := by
  rw [az_s133_313, l0, az_ma_r, az_s133_314, az_s133_317]
  refine ⟨by decide, ?_⟩
  rw [az_s133_319]
  exact ri_st (c := az_ia 0 (Int32.ofInt 1600).toInt.toNat (fun _ => 0)) (by omega) rfl (K := fun x => az_p133 C Q (322, lv, [], x)) h
theorem ri_b39 {L : List Value} (l0 : lv 0 = some (.ref r)) (hl : L.length = 55) (h : az_p133 C Q (331, lv, [], (ri_P r 40 (L.set 45 (.ref (r + 40))) g, r + 41, n + 1600))) : az_p133 C Q (322, lv, [], (ri_P r 39 L g, r + 40, n)) := by
  rw [az_s133_322, l0, az_ma_r, az_s133_323, az_s133_326]
  refine ⟨by decide, ?_⟩
  rw [az_s133_328]
  exact ri_st (c := az_ia 0 (Int32.ofInt 1600).toInt.toNat (fun _ => 0)) (by omega) rfl (K := fun x => az_p133 C Q (331, lv, [], x)) h
theorem ri_b40 {L : List Value} (l0 : lv 0 = some (.ref r)) (hl : L.length = 55) (h : az_p133 C Q (340, lv, [], (ri_P r 41 (L.set 46 (.ref (r + 41))) g, r + 42, n + 1600))) : az_p133 C Q (331, lv, [], (ri_P r 40 L g, r + 41, n)) := by
  rw [az_s133_331, l0, az_ma_r, az_s133_332, az_s133_335]
  refine ⟨by decide, ?_⟩
  rw [az_s133_337]
  exact ri_st (c := az_ia 0 (Int32.ofInt 1600).toInt.toNat (fun _ => 0)) (by omega) rfl (K := fun x => az_p133 C Q (340, lv, [], x)) h
theorem ri_b41 {L : List Value} (l0 : lv 0 = some (.ref r)) (hl : L.length = 55) (h : az_p133 C Q (349, lv, [], (ri_P r 42 (L.set 47 (.ref (r + 42))) g, r + 43, n + 1600))) : az_p133 C Q (340, lv, [], (ri_P r 41 L g, r + 42, n)) := by
  rw [az_s133_340, l0, az_ma_r, az_s133_341, az_s133_344]
  refine ⟨by decide, ?_⟩
  rw [az_s133_346]
  exact ri_st (c := az_ia 0 (Int32.ofInt 1600).toInt.toNat (fun _ => 0)) (by omega) rfl (K := fun x => az_p133 C Q (349, lv, [], x)) h
theorem ri_b42 {L : List Value} (l0 : lv 0 = some (.ref r)) (hl : L.length = 55) (h : az_p133 C Q (357, lv, [], (ri_P r 43 (L.set 53 (.ref (r + 43))) g, r + 44, n + 10))) : az_p133 C Q (349, lv, [], (ri_P r 42 L g, r + 43, n)) := by
  rw [az_s133_349, l0, az_ma_r, az_s133_350, az_s133_352]
  refine ⟨by decide, ?_⟩
  rw [az_s133_354]
  exact ri_st (c := az_ia 0 (Int32.ofInt 10).toInt.toNat (fun _ => 0)) (by omega) rfl (K := fun x => az_p133 C Q (357, lv, [], x)) h
theorem ri_b43 {L : List Value} (l0 : lv 0 = some (.ref r)) (hl : L.length = 55) (h : az_p133 C Q (365, lv, [], (ri_P r 44 (L.set 54 (.ref (r + 44))) g, r + 45, n + 12))) : az_p133 C Q (357, lv, [], (ri_P r 43 L g, r + 44, n)) := by
  rw [az_s133_357, l0, az_ma_r, az_s133_358, az_s133_360]
  refine ⟨by decide, ?_⟩
  rw [az_s133_362]
  exact ri_st (c := az_ia 0 (Int32.ofInt 12).toInt.toNat (fun _ => 0)) (by omega) rfl (K := fun x => az_p133 C Q (365, lv, [], x)) h
def ri_L0 : List Value := az_z 11
theorem ri_l0 : ri_L0.length = 55 := rfl
def ri_L1 (r : Nat) : List Value := (ri_L0).set 3 (.ref (r + 1))
theorem ri_l1 : (ri_L1 r).length = 55 := (List.length_set ..).trans ri_l0
def ri_L2 (r : Nat) : List Value := (ri_L1 r).set 4 (.ref (r + 2))
theorem ri_l2 : (ri_L2 r).length = 55 := (List.length_set ..).trans ri_l1
def ri_L3 (r : Nat) : List Value := (ri_L2 r).set 5 (.ref (r + 3))
theorem ri_l3 : (ri_L3 r).length = 55 := (List.length_set ..).trans ri_l2
def ri_L4 (r : Nat) : List Value := (ri_L3 r).set 6 (.ref (r + 4))
theorem ri_l4 : (ri_L4 r).length = 55 := (List.length_set ..).trans ri_l3
def ri_L5 (r : Nat) : List Value := (ri_L4 r).set 7 (.ref (r + 5))
theorem ri_l5 : (ri_L5 r).length = 55 := (List.length_set ..).trans ri_l4
def ri_L6 (r : Nat) : List Value := (ri_L5 r).set 8 (.ref (r + 6))
theorem ri_l6 : (ri_L6 r).length = 55 := (List.length_set ..).trans ri_l5
def ri_L7 (r : Nat) : List Value := (ri_L6 r).set 9 (.ref (r + 7))
theorem ri_l7 : (ri_L7 r).length = 55 := (List.length_set ..).trans ri_l6
def ri_L8 (r : Nat) : List Value := (ri_L7 r).set 10 (.ref (r + 8))
theorem ri_l8 : (ri_L8 r).length = 55 := (List.length_set ..).trans ri_l7
def ri_L9 (r : Nat) : List Value := (ri_L8 r).set 11 (.ref (r + 9))
theorem ri_l9 : (ri_L9 r).length = 55 := (List.length_set ..).trans ri_l8
def ri_L10 (r : Nat) : List Value := (ri_L9 r).set 12 (.ref (r + 10))
theorem ri_l10 : (ri_L10 r).length = 55 := (List.length_set ..).trans ri_l9
def ri_L11 (r : Nat) : List Value := (ri_L10 r).set 13 (.ref (r + 11))
theorem ri_l11 : (ri_L11 r).length = 55 := (List.length_set ..).trans ri_l10
def ri_L12 (r : Nat) : List Value := (ri_L11 r).set 14 (.ref (r + 12))
theorem ri_l12 : (ri_L12 r).length = 55 := (List.length_set ..).trans ri_l11
def ri_L13 (r : Nat) : List Value := (ri_L12 r).set 15 (.ref (r + 13))
theorem ri_l13 : (ri_L13 r).length = 55 := (List.length_set ..).trans ri_l12
def ri_L14 (r : Nat) : List Value := (ri_L13 r).set 16 (.ref (r + 14))
theorem ri_l14 : (ri_L14 r).length = 55 := (List.length_set ..).trans ri_l13
def ri_L15 (r : Nat) : List Value := (ri_L14 r).set 17 (.ref (r + 15))
theorem ri_l15 : (ri_L15 r).length = 55 := (List.length_set ..).trans ri_l14
def ri_L16 (r : Nat) : List Value := (ri_L15 r).set 18 (.ref (r + 16))
theorem ri_l16 : (ri_L16 r).length = 55 := (List.length_set ..).trans ri_l15
def ri_L17 (r : Nat) : List Value := (ri_L16 r).set 19 (.ref (r + 17))
theorem ri_l17 : (ri_L17 r).length = 55 := (List.length_set ..).trans ri_l16
def ri_L18 (r : Nat) : List Value := (ri_L17 r).set 20 (.ref (r + 18))
theorem ri_l18 : (ri_L18 r).length = 55 := (List.length_set ..).trans ri_l17
def ri_L19 (r : Nat) : List Value := (ri_L18 r).set 21 (.ref (r + 19))
theorem ri_l19 : (ri_L19 r).length = 55 := (List.length_set ..).trans ri_l18
def ri_L20 (r : Nat) : List Value := (ri_L19 r).set 22 (.ref (r + 20))
theorem ri_l20 : (ri_L20 r).length = 55 := (List.length_set ..).trans ri_l19
def ri_L21 (r : Nat) : List Value := (ri_L20 r).set 23 (.ref (r + 21))
theorem ri_l21 : (ri_L21 r).length = 55 := (List.length_set ..).trans ri_l20
def ri_L22 (r : Nat) : List Value := (ri_L21 r).set 24 (.ref (r + 22))
theorem ri_l22 : (ri_L22 r).length = 55 := (List.length_set ..).trans ri_l21
def ri_L23 (r : Nat) : List Value := (ri_L22 r).set 25 (.ref (r + 23))
theorem ri_l23 : (ri_L23 r).length = 55 := (List.length_set ..).trans ri_l22
def ri_L24 (r : Nat) : List Value := (ri_L23 r).set 26 (.ref (r + 24))
theorem ri_l24 : (ri_L24 r).length = 55 := (List.length_set ..).trans ri_l23
def ri_L25 (r : Nat) : List Value := (ri_L24 r).set 27 (.ref (r + 25))
theorem ri_l25 : (ri_L25 r).length = 55 := (List.length_set ..).trans ri_l24
def ri_L26 (r : Nat) : List Value := (ri_L25 r).set 28 (.ref (r + 26))
theorem ri_l26 : (ri_L26 r).length = 55 := (List.length_set ..).trans ri_l25
def ri_L27 (r : Nat) : List Value := (ri_L26 r).set 29 (.ref (r + 27))
theorem ri_l27 : (ri_L27 r).length = 55 := (List.length_set ..).trans ri_l26
def ri_L28 (r : Nat) : List Value := (ri_L27 r).set 30 (.ref (r + 28))
theorem ri_l28 : (ri_L28 r).length = 55 := (List.length_set ..).trans ri_l27
def ri_L29 (r : Nat) : List Value := (ri_L28 r).set 31 (.ref (r + 29))
theorem ri_l29 : (ri_L29 r).length = 55 := (List.length_set ..).trans ri_l28
def ri_L30 (r : Nat) : List Value := (ri_L29 r).set 32 (.ref (r + 30))
theorem ri_l30 : (ri_L30 r).length = 55 := (List.length_set ..).trans ri_l29
def ri_L31 (r : Nat) : List Value := (ri_L30 r).set 34 (.ref (r + 31))
theorem ri_l31 : (ri_L31 r).length = 55 := (List.length_set ..).trans ri_l30
def ri_L32 (r : Nat) : List Value := (ri_L31 r).set 35 (.ref (r + 32))
theorem ri_l32 : (ri_L32 r).length = 55 := (List.length_set ..).trans ri_l31
def ri_L33 (r : Nat) : List Value := (ri_L32 r).set 36 (.ref (r + 33))
theorem ri_l33 : (ri_L33 r).length = 55 := (List.length_set ..).trans ri_l32
def ri_L34 (r : Nat) : List Value := (ri_L33 r).set 37 (.ref (r + 34))
theorem ri_l34 : (ri_L34 r).length = 55 := (List.length_set ..).trans ri_l33
def ri_L35 (r : Nat) : List Value := (ri_L34 r).set 39 (.ref (r + 35))
theorem ri_l35 : (ri_L35 r).length = 55 := (List.length_set ..).trans ri_l34
def ri_L36 (r : Nat) : List Value := (ri_L35 r).set 40 (.ref (r + 36))
theorem ri_l36 : (ri_L36 r).length = 55 := (List.length_set ..).trans ri_l35
def ri_L37 (r : Nat) : List Value := (ri_L36 r).set 41 (.ref (r + 37))
theorem ri_l37 : (ri_L37 r).length = 55 := (List.length_set ..).trans ri_l36
def ri_L38 (r : Nat) : List Value := (ri_L37 r).set 42 (.ref (r + 38))
theorem ri_l38 : (ri_L38 r).length = 55 := (List.length_set ..).trans ri_l37
def ri_L39 (r : Nat) : List Value := (ri_L38 r).set 44 (.ref (r + 39))
theorem ri_l39 : (ri_L39 r).length = 55 := (List.length_set ..).trans ri_l38
def ri_L40 (r : Nat) : List Value := (ri_L39 r).set 45 (.ref (r + 40))
theorem ri_l40 : (ri_L40 r).length = 55 := (List.length_set ..).trans ri_l39
def ri_L41 (r : Nat) : List Value := (ri_L40 r).set 46 (.ref (r + 41))
theorem ri_l41 : (ri_L41 r).length = 55 := (List.length_set ..).trans ri_l40
def ri_L42 (r : Nat) : List Value := (ri_L41 r).set 47 (.ref (r + 42))
theorem ri_l42 : (ri_L42 r).length = 55 := (List.length_set ..).trans ri_l41
def ri_L43 (r : Nat) : List Value := (ri_L42 r).set 53 (.ref (r + 43))
theorem ri_l43 : (ri_L43 r).length = 55 := (List.length_set ..).trans ri_l42
def ri_L44 (r : Nat) : List Value := (ri_L43 r).set 54 (.ref (r + 44))
theorem ri_l44 : (ri_L44 r).length = 55 := (List.length_set ..).trans ri_l43
theorem ri_e0 : ri_L0 = [.int 0, .int 0, .int 0, .null, .null, .null, .null, .null, .null, .null, .null, .null, .null, .null, .null, .null, .null, .null, .null, .null, .null, .null, .null, .null, .null, .null, .null, .null, .null, .null, .null, .null, .null, .int 0, .null, .null, .null, .null, .int 0, .null, .null, .null, .null, .int 0, .null, .null, .null, .null, .long 0, .long 0, .long 0, .long 0, .long 0, .null, .null] := rfl
theorem ri_e1 : ri_L1 r = [.int 0, .int 0, .int 0, .ref (r + 1), .null, .null, .null, .null, .null, .null, .null, .null, .null, .null, .null, .null, .null, .null, .null, .null, .null, .null, .null, .null, .null, .null, .null, .null, .null, .null, .null, .null, .null, .int 0, .null, .null, .null, .null, .int 0, .null, .null, .null, .null, .int 0, .null, .null, .null, .null, .long 0, .long 0, .long 0, .long 0, .long 0, .null, .null] := by
  unfold ri_L1
  rw [ri_e0]
  rfl
theorem ri_e2 : ri_L2 r = [.int 0, .int 0, .int 0, .ref (r + 1), .ref (r + 2), .null, .null, .null, .null, .null, .null, .null, .null, .null, .null, .null, .null, .null, .null, .null, .null, .null, .null, .null, .null, .null, .null, .null, .null, .null, .null, .null, .null, .int 0, .null, .null, .null, .null, .int 0, .null, .null, .null, .null, .int 0, .null, .null, .null, .null, .long 0, .long 0, .long 0, .long 0, .long 0, .null, .null] := by
  unfold ri_L2
  rw [ri_e1]
  rfl
theorem ri_e3 : ri_L3 r = [.int 0, .int 0, .int 0, .ref (r + 1), .ref (r + 2), .ref (r + 3), .null, .null, .null, .null, .null, .null, .null, .null, .null, .null, .null, .null, .null, .null, .null, .null, .null, .null, .null, .null, .null, .null, .null, .null, .null, .null, .null, .int 0, .null, .null, .null, .null, .int 0, .null, .null, .null, .null, .int 0, .null, .null, .null, .null, .long 0, .long 0, .long 0, .long 0, .long 0, .null, .null] := by
  unfold ri_L3
  rw [ri_e2]
  rfl
theorem ri_e4 : ri_L4 r = [.int 0, .int 0, .int 0, .ref (r + 1), .ref (r + 2), .ref (r + 3), .ref (r + 4), .null, .null, .null, .null, .null, .null, .null, .null, .null, .null, .null, .null, .null, .null, .null, .null, .null, .null, .null, .null, .null, .null, .null, .null, .null, .null, .int 0, .null, .null, .null, .null, .int 0, .null, .null, .null, .null, .int 0, .null, .null, .null, .null, .long 0, .long 0, .long 0, .long 0, .long 0, .null, .null] := by
  unfold ri_L4
  rw [ri_e3]
  rfl
theorem ri_e5 : ri_L5 r = [.int 0, .int 0, .int 0, .ref (r + 1), .ref (r + 2), .ref (r + 3), .ref (r + 4), .ref (r + 5), .null, .null, .null, .null, .null, .null, .null, .null, .null, .null, .null, .null, .null, .null, .null, .null, .null, .null, .null, .null, .null, .null, .null, .null, .null, .int 0, .null, .null, .null, .null, .int 0, .null, .null, .null, .null, .int 0, .null, .null, .null, .null, .long 0, .long 0, .long 0, .long 0, .long 0, .null, .null] := by
  unfold ri_L5
  rw [ri_e4]
  rfl
theorem ri_e6 : ri_L6 r = [.int 0, .int 0, .int 0, .ref (r + 1), .ref (r + 2), .ref (r + 3), .ref (r + 4), .ref (r + 5), .ref (r + 6), .null, .null, .null, .null, .null, .null, .null, .null, .null, .null, .null, .null, .null, .null, .null, .null, .null, .null, .null, .null, .null, .null, .null, .null, .int 0, .null, .null, .null, .null, .int 0, .null, .null, .null, .null, .int 0, .null, .null, .null, .null, .long 0, .long 0, .long 0, .long 0, .long 0, .null, .null] := by
  unfold ri_L6
  rw [ri_e5]
  rfl
theorem ri_e7 : ri_L7 r = [.int 0, .int 0, .int 0, .ref (r + 1), .ref (r + 2), .ref (r + 3), .ref (r + 4), .ref (r + 5), .ref (r + 6), .ref (r + 7), .null, .null, .null, .null, .null, .null, .null, .null, .null, .null, .null, .null, .null, .null, .null, .null, .null, .null, .null, .null, .null, .null, .null, .int 0, .null, .null, .null, .null, .int 0, .null, .null, .null, .null, .int 0, .null, .null, .null, .null, .long 0, .long 0, .long 0, .long 0, .long 0, .null, .null] := by
  unfold ri_L7
  rw [ri_e6]
  rfl
theorem ri_e8 : ri_L8 r = [.int 0, .int 0, .int 0, .ref (r + 1), .ref (r + 2), .ref (r + 3), .ref (r + 4), .ref (r + 5), .ref (r + 6), .ref (r + 7), .ref (r + 8), .null, .null, .null, .null, .null, .null, .null, .null, .null, .null, .null, .null, .null, .null, .null, .null, .null, .null, .null, .null, .null, .null, .int 0, .null, .null, .null, .null, .int 0, .null, .null, .null, .null, .int 0, .null, .null, .null, .null, .long 0, .long 0, .long 0, .long 0, .long 0, .null, .null] := by
  unfold ri_L8
  rw [ri_e7]
  rfl
theorem ri_e9 : ri_L9 r = [.int 0, .int 0, .int 0, .ref (r + 1), .ref (r + 2), .ref (r + 3), .ref (r + 4), .ref (r + 5), .ref (r + 6), .ref (r + 7), .ref (r + 8), .ref (r + 9), .null, .null, .null, .null, .null, .null, .null, .null, .null, .null, .null, .null, .null, .null, .null, .null, .null, .null, .null, .null, .null, .int 0, .null, .null, .null, .null, .int 0, .null, .null, .null, .null, .int 0, .null, .null, .null, .null, .long 0, .long 0, .long 0, .long 0, .long 0, .null, .null] := by
  unfold ri_L9
  rw [ri_e8]
  rfl
theorem ri_e10 : ri_L10 r = [.int 0, .int 0, .int 0, .ref (r + 1), .ref (r + 2), .ref (r + 3), .ref (r + 4), .ref (r + 5), .ref (r + 6), .ref (r + 7), .ref (r + 8), .ref (r + 9), .ref (r + 10), .null, .null, .null, .null, .null, .null, .null, .null, .null, .null, .null, .null, .null, .null, .null, .null, .null, .null, .null, .null, .int 0, .null, .null, .null, .null, .int 0, .null, .null, .null, .null, .int 0, .null, .null, .null, .null, .long 0, .long 0, .long 0, .long 0, .long 0, .null, .null] := by
  unfold ri_L10
  rw [ri_e9]
  rfl
theorem ri_e11 : ri_L11 r = [.int 0, .int 0, .int 0, .ref (r + 1), .ref (r + 2), .ref (r + 3), .ref (r + 4), .ref (r + 5), .ref (r + 6), .ref (r + 7), .ref (r + 8), .ref (r + 9), .ref (r + 10), .ref (r + 11), .null, .null, .null, .null, .null, .null, .null, .null, .null, .null, .null, .null, .null, .null, .null, .null, .null, .null, .null, .int 0, .null, .null, .null, .null, .int 0, .null, .null, .null, .null, .int 0, .null, .null, .null, .null, .long 0, .long 0, .long 0, .long 0, .long 0, .null, .null] := by
  unfold ri_L11
  rw [ri_e10]
  rfl
theorem ri_e12 : ri_L12 r = [.int 0, .int 0, .int 0, .ref (r + 1), .ref (r + 2), .ref (r + 3), .ref (r + 4), .ref (r + 5), .ref (r + 6), .ref (r + 7), .ref (r + 8), .ref (r + 9), .ref (r + 10), .ref (r + 11), .ref (r + 12), .null, .null, .null, .null, .null, .null, .null, .null, .null, .null, .null, .null, .null, .null, .null, .null, .null, .null, .int 0, .null, .null, .null, .null, .int 0, .null, .null, .null, .null, .int 0, .null, .null, .null, .null, .long 0, .long 0, .long 0, .long 0, .long 0, .null, .null] := by
  unfold ri_L12
  rw [ri_e11]
  rfl
theorem ri_e13 : ri_L13 r = [.int 0, .int 0, .int 0, .ref (r + 1), .ref (r + 2), .ref (r + 3), .ref (r + 4), .ref (r + 5), .ref (r + 6), .ref (r + 7), .ref (r + 8), .ref (r + 9), .ref (r + 10), .ref (r + 11), .ref (r + 12), .ref (r + 13), .null, .null, .null, .null, .null, .null, .null, .null, .null, .null, .null, .null, .null, .null, .null, .null, .null, .int 0, .null, .null, .null, .null, .int 0, .null, .null, .null, .null, .int 0, .null, .null, .null, .null, .long 0, .long 0, .long 0, .long 0, .long 0, .null, .null] := by
  unfold ri_L13
  rw [ri_e12]
  rfl
theorem ri_e14 : ri_L14 r = [.int 0, .int 0, .int 0, .ref (r + 1), .ref (r + 2), .ref (r + 3), .ref (r + 4), .ref (r + 5), .ref (r + 6), .ref (r + 7), .ref (r + 8), .ref (r + 9), .ref (r + 10), .ref (r + 11), .ref (r + 12), .ref (r + 13), .ref (r + 14), .null, .null, .null, .null, .null, .null, .null, .null, .null, .null, .null, .null, .null, .null, .null, .null, .int 0, .null, .null, .null, .null, .int 0, .null, .null, .null, .null, .int 0, .null, .null, .null, .null, .long 0, .long 0, .long 0, .long 0, .long 0, .null, .null] := by
  unfold ri_L14
  rw [ri_e13]
  rfl
theorem ri_e15 : ri_L15 r = [.int 0, .int 0, .int 0, .ref (r + 1), .ref (r + 2), .ref (r + 3), .ref (r + 4), .ref (r + 5), .ref (r + 6), .ref (r + 7), .ref (r + 8), .ref (r + 9), .ref (r + 10), .ref (r + 11), .ref (r + 12), .ref (r + 13), .ref (r + 14), .ref (r + 15), .null, .null, .null, .null, .null, .null, .null, .null, .null, .null, .null, .null, .null, .null, .null, .int 0, .null, .null, .null, .null, .int 0, .null, .null, .null, .null, .int 0, .null, .null, .null, .null, .long 0, .long 0, .long 0, .long 0, .long 0, .null, .null] := by
  unfold ri_L15
  rw [ri_e14]
  rfl
theorem ri_e16 : ri_L16 r = [.int 0, .int 0, .int 0, .ref (r + 1), .ref (r + 2), .ref (r + 3), .ref (r + 4), .ref (r + 5), .ref (r + 6), .ref (r + 7), .ref (r + 8), .ref (r + 9), .ref (r + 10), .ref (r + 11), .ref (r + 12), .ref (r + 13), .ref (r + 14), .ref (r + 15), .ref (r + 16), .null, .null, .null, .null, .null, .null, .null, .null, .null, .null, .null, .null, .null, .null, .int 0, .null, .null, .null, .null, .int 0, .null, .null, .null, .null, .int 0, .null, .null, .null, .null, .long 0, .long 0, .long 0, .long 0, .long 0, .null, .null] := by
  unfold ri_L16
  rw [ri_e15]
  rfl
theorem ri_e17 : ri_L17 r = [.int 0, .int 0, .int 0, .ref (r + 1), .ref (r + 2), .ref (r + 3), .ref (r + 4), .ref (r + 5), .ref (r + 6), .ref (r + 7), .ref (r + 8), .ref (r + 9), .ref (r + 10), .ref (r + 11), .ref (r + 12), .ref (r + 13), .ref (r + 14), .ref (r + 15), .ref (r + 16), .ref (r + 17), .null, .null, .null, .null, .null, .null, .null, .null, .null, .null, .null, .null, .null, .int 0, .null, .null, .null, .null, .int 0, .null, .null, .null, .null, .int 0, .null, .null, .null, .null, .long 0, .long 0, .long 0, .long 0, .long 0, .null, .null] := by
  unfold ri_L17
  rw [ri_e16]
  rfl
theorem ri_e18 : ri_L18 r = [.int 0, .int 0, .int 0, .ref (r + 1), .ref (r + 2), .ref (r + 3), .ref (r + 4), .ref (r + 5), .ref (r + 6), .ref (r + 7), .ref (r + 8), .ref (r + 9), .ref (r + 10), .ref (r + 11), .ref (r + 12), .ref (r + 13), .ref (r + 14), .ref (r + 15), .ref (r + 16), .ref (r + 17), .ref (r + 18), .null, .null, .null, .null, .null, .null, .null, .null, .null, .null, .null, .null, .int 0, .null, .null, .null, .null, .int 0, .null, .null, .null, .null, .int 0, .null, .null, .null, .null, .long 0, .long 0, .long 0, .long 0, .long 0, .null, .null] := by
  unfold ri_L18
  rw [ri_e17]
  rfl
theorem ri_e19 : ri_L19 r = [.int 0, .int 0, .int 0, .ref (r + 1), .ref (r + 2), .ref (r + 3), .ref (r + 4), .ref (r + 5), .ref (r + 6), .ref (r + 7), .ref (r + 8), .ref (r + 9), .ref (r + 10), .ref (r + 11), .ref (r + 12), .ref (r + 13), .ref (r + 14), .ref (r + 15), .ref (r + 16), .ref (r + 17), .ref (r + 18), .ref (r + 19), .null, .null, .null, .null, .null, .null, .null, .null, .null, .null, .null, .int 0, .null, .null, .null, .null, .int 0, .null, .null, .null, .null, .int 0, .null, .null, .null, .null, .long 0, .long 0, .long 0, .long 0, .long 0, .null, .null] := by
  unfold ri_L19
  rw [ri_e18]
  rfl
theorem ri_e20 : ri_L20 r = [.int 0, .int 0, .int 0, .ref (r + 1), .ref (r + 2), .ref (r + 3), .ref (r + 4), .ref (r + 5), .ref (r + 6), .ref (r + 7), .ref (r + 8), .ref (r + 9), .ref (r + 10), .ref (r + 11), .ref (r + 12), .ref (r + 13), .ref (r + 14), .ref (r + 15), .ref (r + 16), .ref (r + 17), .ref (r + 18), .ref (r + 19), .ref (r + 20), .null, .null, .null, .null, .null, .null, .null, .null, .null, .null, .int 0, .null, .null, .null, .null, .int 0, .null, .null, .null, .null, .int 0, .null, .null, .null, .null, .long 0, .long 0, .long 0, .long 0, .long 0, .null, .null] := by
  unfold ri_L20
  rw [ri_e19]
  rfl
theorem ri_e21 : ri_L21 r = [.int 0, .int 0, .int 0, .ref (r + 1), .ref (r + 2), .ref (r + 3), .ref (r + 4), .ref (r + 5), .ref (r + 6), .ref (r + 7), .ref (r + 8), .ref (r + 9), .ref (r + 10), .ref (r + 11), .ref (r + 12), .ref (r + 13), .ref (r + 14), .ref (r + 15), .ref (r + 16), .ref (r + 17), .ref (r + 18), .ref (r + 19), .ref (r + 20), .ref (r + 21), .null, .null, .null, .null, .null, .null, .null, .null, .null, .int 0, .null, .null, .null, .null, .int 0, .null, .null, .null, .null, .int 0, .null, .null, .null, .null, .long 0, .long 0, .long 0, .long 0, .long 0, .null, .null] := by
  unfold ri_L21
  rw [ri_e20]
  rfl
theorem ri_e22 : ri_L22 r = [.int 0, .int 0, .int 0, .ref (r + 1), .ref (r + 2), .ref (r + 3), .ref (r + 4), .ref (r + 5), .ref (r + 6), .ref (r + 7), .ref (r + 8), .ref (r + 9), .ref (r + 10), .ref (r + 11), .ref (r + 12), .ref (r + 13), .ref (r + 14), .ref (r + 15), .ref (r + 16), .ref (r + 17), .ref (r + 18), .ref (r + 19), .ref (r + 20), .ref (r + 21), .ref (r + 22), .null, .null, .null, .null, .null, .null, .null, .null, .int 0, .null, .null, .null, .null, .int 0, .null, .null, .null, .null, .int 0, .null, .null, .null, .null, .long 0, .long 0, .long 0, .long 0, .long 0, .null, .null] := by
  unfold ri_L22
  rw [ri_e21]
  rfl
theorem ri_e23 : ri_L23 r = [.int 0, .int 0, .int 0, .ref (r + 1), .ref (r + 2), .ref (r + 3), .ref (r + 4), .ref (r + 5), .ref (r + 6), .ref (r + 7), .ref (r + 8), .ref (r + 9), .ref (r + 10), .ref (r + 11), .ref (r + 12), .ref (r + 13), .ref (r + 14), .ref (r + 15), .ref (r + 16), .ref (r + 17), .ref (r + 18), .ref (r + 19), .ref (r + 20), .ref (r + 21), .ref (r + 22), .ref (r + 23), .null, .null, .null, .null, .null, .null, .null, .int 0, .null, .null, .null, .null, .int 0, .null, .null, .null, .null, .int 0, .null, .null, .null, .null, .long 0, .long 0, .long 0, .long 0, .long 0, .null, .null] := by
  unfold ri_L23
  rw [ri_e22]
  rfl
theorem ri_e24 : ri_L24 r = [.int 0, .int 0, .int 0, .ref (r + 1), .ref (r + 2), .ref (r + 3), .ref (r + 4), .ref (r + 5), .ref (r + 6), .ref (r + 7), .ref (r + 8), .ref (r + 9), .ref (r + 10), .ref (r + 11), .ref (r + 12), .ref (r + 13), .ref (r + 14), .ref (r + 15), .ref (r + 16), .ref (r + 17), .ref (r + 18), .ref (r + 19), .ref (r + 20), .ref (r + 21), .ref (r + 22), .ref (r + 23), .ref (r + 24), .null, .null, .null, .null, .null, .null, .int 0, .null, .null, .null, .null, .int 0, .null, .null, .null, .null, .int 0, .null, .null, .null, .null, .long 0, .long 0, .long 0, .long 0, .long 0, .null, .null] := by
  unfold ri_L24
  rw [ri_e23]
  rfl
theorem ri_e25 : ri_L25 r = [.int 0, .int 0, .int 0, .ref (r + 1), .ref (r + 2), .ref (r + 3), .ref (r + 4), .ref (r + 5), .ref (r + 6), .ref (r + 7), .ref (r + 8), .ref (r + 9), .ref (r + 10), .ref (r + 11), .ref (r + 12), .ref (r + 13), .ref (r + 14), .ref (r + 15), .ref (r + 16), .ref (r + 17), .ref (r + 18), .ref (r + 19), .ref (r + 20), .ref (r + 21), .ref (r + 22), .ref (r + 23), .ref (r + 24), .ref (r + 25), .null, .null, .null, .null, .null, .int 0, .null, .null, .null, .null, .int 0, .null, .null, .null, .null, .int 0, .null, .null, .null, .null, .long 0, .long 0, .long 0, .long 0, .long 0, .null, .null] := by
  unfold ri_L25
  rw [ri_e24]
  rfl
theorem ri_e26 : ri_L26 r = [.int 0, .int 0, .int 0, .ref (r + 1), .ref (r + 2), .ref (r + 3), .ref (r + 4), .ref (r + 5), .ref (r + 6), .ref (r + 7), .ref (r + 8), .ref (r + 9), .ref (r + 10), .ref (r + 11), .ref (r + 12), .ref (r + 13), .ref (r + 14), .ref (r + 15), .ref (r + 16), .ref (r + 17), .ref (r + 18), .ref (r + 19), .ref (r + 20), .ref (r + 21), .ref (r + 22), .ref (r + 23), .ref (r + 24), .ref (r + 25), .ref (r + 26), .null, .null, .null, .null, .int 0, .null, .null, .null, .null, .int 0, .null, .null, .null, .null, .int 0, .null, .null, .null, .null, .long 0, .long 0, .long 0, .long 0, .long 0, .null, .null] := by
  unfold ri_L26
  rw [ri_e25]
  rfl
theorem ri_e27 : ri_L27 r = [.int 0, .int 0, .int 0, .ref (r + 1), .ref (r + 2), .ref (r + 3), .ref (r + 4), .ref (r + 5), .ref (r + 6), .ref (r + 7), .ref (r + 8), .ref (r + 9), .ref (r + 10), .ref (r + 11), .ref (r + 12), .ref (r + 13), .ref (r + 14), .ref (r + 15), .ref (r + 16), .ref (r + 17), .ref (r + 18), .ref (r + 19), .ref (r + 20), .ref (r + 21), .ref (r + 22), .ref (r + 23), .ref (r + 24), .ref (r + 25), .ref (r + 26), .ref (r + 27), .null, .null, .null, .int 0, .null, .null, .null, .null, .int 0, .null, .null, .null, .null, .int 0, .null, .null, .null, .null, .long 0, .long 0, .long 0, .long 0, .long 0, .null, .null] := by
  unfold ri_L27
  rw [ri_e26]
  rfl
theorem ri_e28 : ri_L28 r = [.int 0, .int 0, .int 0, .ref (r + 1), .ref (r + 2), .ref (r + 3), .ref (r + 4), .ref (r + 5), .ref (r + 6), .ref (r + 7), .ref (r + 8), .ref (r + 9), .ref (r + 10), .ref (r + 11), .ref (r + 12), .ref (r + 13), .ref (r + 14), .ref (r + 15), .ref (r + 16), .ref (r + 17), .ref (r + 18), .ref (r + 19), .ref (r + 20), .ref (r + 21), .ref (r + 22), .ref (r + 23), .ref (r + 24), .ref (r + 25), .ref (r + 26), .ref (r + 27), .ref (r + 28), .null, .null, .int 0, .null, .null, .null, .null, .int 0, .null, .null, .null, .null, .int 0, .null, .null, .null, .null, .long 0, .long 0, .long 0, .long 0, .long 0, .null, .null] := by
  unfold ri_L28
  rw [ri_e27]
  rfl
theorem ri_e29 : ri_L29 r = [.int 0, .int 0, .int 0, .ref (r + 1), .ref (r + 2), .ref (r + 3), .ref (r + 4), .ref (r + 5), .ref (r + 6), .ref (r + 7), .ref (r + 8), .ref (r + 9), .ref (r + 10), .ref (r + 11), .ref (r + 12), .ref (r + 13), .ref (r + 14), .ref (r + 15), .ref (r + 16), .ref (r + 17), .ref (r + 18), .ref (r + 19), .ref (r + 20), .ref (r + 21), .ref (r + 22), .ref (r + 23), .ref (r + 24), .ref (r + 25), .ref (r + 26), .ref (r + 27), .ref (r + 28), .ref (r + 29), .null, .int 0, .null, .null, .null, .null, .int 0, .null, .null, .null, .null, .int 0, .null, .null, .null, .null, .long 0, .long 0, .long 0, .long 0, .long 0, .null, .null] := by
  unfold ri_L29
  rw [ri_e28]
  rfl
theorem ri_e30 : ri_L30 r = [.int 0, .int 0, .int 0, .ref (r + 1), .ref (r + 2), .ref (r + 3), .ref (r + 4), .ref (r + 5), .ref (r + 6), .ref (r + 7), .ref (r + 8), .ref (r + 9), .ref (r + 10), .ref (r + 11), .ref (r + 12), .ref (r + 13), .ref (r + 14), .ref (r + 15), .ref (r + 16), .ref (r + 17), .ref (r + 18), .ref (r + 19), .ref (r + 20), .ref (r + 21), .ref (r + 22), .ref (r + 23), .ref (r + 24), .ref (r + 25), .ref (r + 26), .ref (r + 27), .ref (r + 28), .ref (r + 29), .ref (r + 30), .int 0, .null, .null, .null, .null, .int 0, .null, .null, .null, .null, .int 0, .null, .null, .null, .null, .long 0, .long 0, .long 0, .long 0, .long 0, .null, .null] := by
  unfold ri_L30
  rw [ri_e29]
  rfl
theorem ri_e31 : ri_L31 r = [.int 0, .int 0, .int 0, .ref (r + 1), .ref (r + 2), .ref (r + 3), .ref (r + 4), .ref (r + 5), .ref (r + 6), .ref (r + 7), .ref (r + 8), .ref (r + 9), .ref (r + 10), .ref (r + 11), .ref (r + 12), .ref (r + 13), .ref (r + 14), .ref (r + 15), .ref (r + 16), .ref (r + 17), .ref (r + 18), .ref (r + 19), .ref (r + 20), .ref (r + 21), .ref (r + 22), .ref (r + 23), .ref (r + 24), .ref (r + 25), .ref (r + 26), .ref (r + 27), .ref (r + 28), .ref (r + 29), .ref (r + 30), .int 0, .ref (r + 31), .null, .null, .null, .int 0, .null, .null, .null, .null, .int 0, .null, .null, .null, .null, .long 0, .long 0, .long 0, .long 0, .long 0, .null, .null] := by
  unfold ri_L31
  rw [ri_e30]
  rfl
theorem ri_e32 : ri_L32 r = [.int 0, .int 0, .int 0, .ref (r + 1), .ref (r + 2), .ref (r + 3), .ref (r + 4), .ref (r + 5), .ref (r + 6), .ref (r + 7), .ref (r + 8), .ref (r + 9), .ref (r + 10), .ref (r + 11), .ref (r + 12), .ref (r + 13), .ref (r + 14), .ref (r + 15), .ref (r + 16), .ref (r + 17), .ref (r + 18), .ref (r + 19), .ref (r + 20), .ref (r + 21), .ref (r + 22), .ref (r + 23), .ref (r + 24), .ref (r + 25), .ref (r + 26), .ref (r + 27), .ref (r + 28), .ref (r + 29), .ref (r + 30), .int 0, .ref (r + 31), .ref (r + 32), .null, .null, .int 0, .null, .null, .null, .null, .int 0, .null, .null, .null, .null, .long 0, .long 0, .long 0, .long 0, .long 0, .null, .null] := by
  unfold ri_L32
  rw [ri_e31]
  rfl
theorem ri_e33 : ri_L33 r = [.int 0, .int 0, .int 0, .ref (r + 1), .ref (r + 2), .ref (r + 3), .ref (r + 4), .ref (r + 5), .ref (r + 6), .ref (r + 7), .ref (r + 8), .ref (r + 9), .ref (r + 10), .ref (r + 11), .ref (r + 12), .ref (r + 13), .ref (r + 14), .ref (r + 15), .ref (r + 16), .ref (r + 17), .ref (r + 18), .ref (r + 19), .ref (r + 20), .ref (r + 21), .ref (r + 22), .ref (r + 23), .ref (r + 24), .ref (r + 25), .ref (r + 26), .ref (r + 27), .ref (r + 28), .ref (r + 29), .ref (r + 30), .int 0, .ref (r + 31), .ref (r + 32), .ref (r + 33), .null, .int 0, .null, .null, .null, .null, .int 0, .null, .null, .null, .null, .long 0, .long 0, .long 0, .long 0, .long 0, .null, .null] := by
  unfold ri_L33
  rw [ri_e32]
  rfl
theorem ri_e34 : ri_L34 r = [.int 0, .int 0, .int 0, .ref (r + 1), .ref (r + 2), .ref (r + 3), .ref (r + 4), .ref (r + 5), .ref (r + 6), .ref (r + 7), .ref (r + 8), .ref (r + 9), .ref (r + 10), .ref (r + 11), .ref (r + 12), .ref (r + 13), .ref (r + 14), .ref (r + 15), .ref (r + 16), .ref (r + 17), .ref (r + 18), .ref (r + 19), .ref (r + 20), .ref (r + 21), .ref (r + 22), .ref (r + 23), .ref (r + 24), .ref (r + 25), .ref (r + 26), .ref (r + 27), .ref (r + 28), .ref (r + 29), .ref (r + 30), .int 0, .ref (r + 31), .ref (r + 32), .ref (r + 33), .ref (r + 34), .int 0, .null, .null, .null, .null, .int 0, .null, .null, .null, .null, .long 0, .long 0, .long 0, .long 0, .long 0, .null, .null] := by
  unfold ri_L34
  rw [ri_e33]
  rfl
theorem ri_e35 : ri_L35 r = [.int 0, .int 0, .int 0, .ref (r + 1), .ref (r + 2), .ref (r + 3), .ref (r + 4), .ref (r + 5), .ref (r + 6), .ref (r + 7), .ref (r + 8), .ref (r + 9), .ref (r + 10), .ref (r + 11), .ref (r + 12), .ref (r + 13), .ref (r + 14), .ref (r + 15), .ref (r + 16), .ref (r + 17), .ref (r + 18), .ref (r + 19), .ref (r + 20), .ref (r + 21), .ref (r + 22), .ref (r + 23), .ref (r + 24), .ref (r + 25), .ref (r + 26), .ref (r + 27), .ref (r + 28), .ref (r + 29), .ref (r + 30), .int 0, .ref (r + 31), .ref (r + 32), .ref (r + 33), .ref (r + 34), .int 0, .ref (r + 35), .null, .null, .null, .int 0, .null, .null, .null, .null, .long 0, .long 0, .long 0, .long 0, .long 0, .null, .null] := by
  unfold ri_L35
  rw [ri_e34]
  rfl
theorem ri_e36 : ri_L36 r = [.int 0, .int 0, .int 0, .ref (r + 1), .ref (r + 2), .ref (r + 3), .ref (r + 4), .ref (r + 5), .ref (r + 6), .ref (r + 7), .ref (r + 8), .ref (r + 9), .ref (r + 10), .ref (r + 11), .ref (r + 12), .ref (r + 13), .ref (r + 14), .ref (r + 15), .ref (r + 16), .ref (r + 17), .ref (r + 18), .ref (r + 19), .ref (r + 20), .ref (r + 21), .ref (r + 22), .ref (r + 23), .ref (r + 24), .ref (r + 25), .ref (r + 26), .ref (r + 27), .ref (r + 28), .ref (r + 29), .ref (r + 30), .int 0, .ref (r + 31), .ref (r + 32), .ref (r + 33), .ref (r + 34), .int 0, .ref (r + 35), .ref (r + 36), .null, .null, .int 0, .null, .null, .null, .null, .long 0, .long 0, .long 0, .long 0, .long 0, .null, .null] := by
  unfold ri_L36
  rw [ri_e35]
  rfl
theorem ri_e37 : ri_L37 r = [.int 0, .int 0, .int 0, .ref (r + 1), .ref (r + 2), .ref (r + 3), .ref (r + 4), .ref (r + 5), .ref (r + 6), .ref (r + 7), .ref (r + 8), .ref (r + 9), .ref (r + 10), .ref (r + 11), .ref (r + 12), .ref (r + 13), .ref (r + 14), .ref (r + 15), .ref (r + 16), .ref (r + 17), .ref (r + 18), .ref (r + 19), .ref (r + 20), .ref (r + 21), .ref (r + 22), .ref (r + 23), .ref (r + 24), .ref (r + 25), .ref (r + 26), .ref (r + 27), .ref (r + 28), .ref (r + 29), .ref (r + 30), .int 0, .ref (r + 31), .ref (r + 32), .ref (r + 33), .ref (r + 34), .int 0, .ref (r + 35), .ref (r + 36), .ref (r + 37), .null, .int 0, .null, .null, .null, .null, .long 0, .long 0, .long 0, .long 0, .long 0, .null, .null] := by
  unfold ri_L37
  rw [ri_e36]
  rfl
theorem ri_e38 : ri_L38 r = [.int 0, .int 0, .int 0, .ref (r + 1), .ref (r + 2), .ref (r + 3), .ref (r + 4), .ref (r + 5), .ref (r + 6), .ref (r + 7), .ref (r + 8), .ref (r + 9), .ref (r + 10), .ref (r + 11), .ref (r + 12), .ref (r + 13), .ref (r + 14), .ref (r + 15), .ref (r + 16), .ref (r + 17), .ref (r + 18), .ref (r + 19), .ref (r + 20), .ref (r + 21), .ref (r + 22), .ref (r + 23), .ref (r + 24), .ref (r + 25), .ref (r + 26), .ref (r + 27), .ref (r + 28), .ref (r + 29), .ref (r + 30), .int 0, .ref (r + 31), .ref (r + 32), .ref (r + 33), .ref (r + 34), .int 0, .ref (r + 35), .ref (r + 36), .ref (r + 37), .ref (r + 38), .int 0, .null, .null, .null, .null, .long 0, .long 0, .long 0, .long 0, .long 0, .null, .null] := by
  unfold ri_L38
  rw [ri_e37]
  rfl
theorem ri_e39 : ri_L39 r = [.int 0, .int 0, .int 0, .ref (r + 1), .ref (r + 2), .ref (r + 3), .ref (r + 4), .ref (r + 5), .ref (r + 6), .ref (r + 7), .ref (r + 8), .ref (r + 9), .ref (r + 10), .ref (r + 11), .ref (r + 12), .ref (r + 13), .ref (r + 14), .ref (r + 15), .ref (r + 16), .ref (r + 17), .ref (r + 18), .ref (r + 19), .ref (r + 20), .ref (r + 21), .ref (r + 22), .ref (r + 23), .ref (r + 24), .ref (r + 25), .ref (r + 26), .ref (r + 27), .ref (r + 28), .ref (r + 29), .ref (r + 30), .int 0, .ref (r + 31), .ref (r + 32), .ref (r + 33), .ref (r + 34), .int 0, .ref (r + 35), .ref (r + 36), .ref (r + 37), .ref (r + 38), .int 0, .ref (r + 39), .null, .null, .null, .long 0, .long 0, .long 0, .long 0, .long 0, .null, .null] := by
  unfold ri_L39
  rw [ri_e38]
  rfl
theorem ri_e40 : ri_L40 r = [.int 0, .int 0, .int 0, .ref (r + 1), .ref (r + 2), .ref (r + 3), .ref (r + 4), .ref (r + 5), .ref (r + 6), .ref (r + 7), .ref (r + 8), .ref (r + 9), .ref (r + 10), .ref (r + 11), .ref (r + 12), .ref (r + 13), .ref (r + 14), .ref (r + 15), .ref (r + 16), .ref (r + 17), .ref (r + 18), .ref (r + 19), .ref (r + 20), .ref (r + 21), .ref (r + 22), .ref (r + 23), .ref (r + 24), .ref (r + 25), .ref (r + 26), .ref (r + 27), .ref (r + 28), .ref (r + 29), .ref (r + 30), .int 0, .ref (r + 31), .ref (r + 32), .ref (r + 33), .ref (r + 34), .int 0, .ref (r + 35), .ref (r + 36), .ref (r + 37), .ref (r + 38), .int 0, .ref (r + 39), .ref (r + 40), .null, .null, .long 0, .long 0, .long 0, .long 0, .long 0, .null, .null] := by
  unfold ri_L40
  rw [ri_e39]
  rfl
theorem ri_e41 : ri_L41 r = [.int 0, .int 0, .int 0, .ref (r + 1), .ref (r + 2), .ref (r + 3), .ref (r + 4), .ref (r + 5), .ref (r + 6), .ref (r + 7), .ref (r + 8), .ref (r + 9), .ref (r + 10), .ref (r + 11), .ref (r + 12), .ref (r + 13), .ref (r + 14), .ref (r + 15), .ref (r + 16), .ref (r + 17), .ref (r + 18), .ref (r + 19), .ref (r + 20), .ref (r + 21), .ref (r + 22), .ref (r + 23), .ref (r + 24), .ref (r + 25), .ref (r + 26), .ref (r + 27), .ref (r + 28), .ref (r + 29), .ref (r + 30), .int 0, .ref (r + 31), .ref (r + 32), .ref (r + 33), .ref (r + 34), .int 0, .ref (r + 35), .ref (r + 36), .ref (r + 37), .ref (r + 38), .int 0, .ref (r + 39), .ref (r + 40), .ref (r + 41), .null, .long 0, .long 0, .long 0, .long 0, .long 0, .null, .null] := by
  unfold ri_L41
  rw [ri_e40]
  rfl
theorem ri_e42 : ri_L42 r = [.int 0, .int 0, .int 0, .ref (r + 1), .ref (r + 2), .ref (r + 3), .ref (r + 4), .ref (r + 5), .ref (r + 6), .ref (r + 7), .ref (r + 8), .ref (r + 9), .ref (r + 10), .ref (r + 11), .ref (r + 12), .ref (r + 13), .ref (r + 14), .ref (r + 15), .ref (r + 16), .ref (r + 17), .ref (r + 18), .ref (r + 19), .ref (r + 20), .ref (r + 21), .ref (r + 22), .ref (r + 23), .ref (r + 24), .ref (r + 25), .ref (r + 26), .ref (r + 27), .ref (r + 28), .ref (r + 29), .ref (r + 30), .int 0, .ref (r + 31), .ref (r + 32), .ref (r + 33), .ref (r + 34), .int 0, .ref (r + 35), .ref (r + 36), .ref (r + 37), .ref (r + 38), .int 0, .ref (r + 39), .ref (r + 40), .ref (r + 41), .ref (r + 42), .long 0, .long 0, .long 0, .long 0, .long 0, .null, .null] := by
  unfold ri_L42
  rw [ri_e41]
  rfl
theorem ri_e43 : ri_L43 r = [.int 0, .int 0, .int 0, .ref (r + 1), .ref (r + 2), .ref (r + 3), .ref (r + 4), .ref (r + 5), .ref (r + 6), .ref (r + 7), .ref (r + 8), .ref (r + 9), .ref (r + 10), .ref (r + 11), .ref (r + 12), .ref (r + 13), .ref (r + 14), .ref (r + 15), .ref (r + 16), .ref (r + 17), .ref (r + 18), .ref (r + 19), .ref (r + 20), .ref (r + 21), .ref (r + 22), .ref (r + 23), .ref (r + 24), .ref (r + 25), .ref (r + 26), .ref (r + 27), .ref (r + 28), .ref (r + 29), .ref (r + 30), .int 0, .ref (r + 31), .ref (r + 32), .ref (r + 33), .ref (r + 34), .int 0, .ref (r + 35), .ref (r + 36), .ref (r + 37), .ref (r + 38), .int 0, .ref (r + 39), .ref (r + 40), .ref (r + 41), .ref (r + 42), .long 0, .long 0, .long 0, .long 0, .long 0, .ref (r + 43), .null] := by
  unfold ri_L43
  rw [ri_e42]
  rfl
theorem ri_e44 : ri_L44 r = [.int 0, .int 0, .int 0, .ref (r + 1), .ref (r + 2), .ref (r + 3), .ref (r + 4), .ref (r + 5), .ref (r + 6), .ref (r + 7), .ref (r + 8), .ref (r + 9), .ref (r + 10), .ref (r + 11), .ref (r + 12), .ref (r + 13), .ref (r + 14), .ref (r + 15), .ref (r + 16), .ref (r + 17), .ref (r + 18), .ref (r + 19), .ref (r + 20), .ref (r + 21), .ref (r + 22), .ref (r + 23), .ref (r + 24), .ref (r + 25), .ref (r + 26), .ref (r + 27), .ref (r + 28), .ref (r + 29), .ref (r + 30), .int 0, .ref (r + 31), .ref (r + 32), .ref (r + 33), .ref (r + 34), .int 0, .ref (r + 35), .ref (r + 36), .ref (r + 37), .ref (r + 38), .int 0, .ref (r + 39), .ref (r + 40), .ref (r + 41), .ref (r + 42), .long 0, .long 0, .long 0, .long 0, .long 0, .ref (r + 43), .ref (r + 44)] := by
  unfold ri_L44
  rw [ri_e43]
  rfl
theorem ri_Lf : ri_L44 r = az_fR S00 r := by
  rw [ri_e44]
  rfl
theorem ri_PR : ri_P r 44 (az_fR S00 r) g = az_RH r S00 g := by
  funext a
  unfold ri_P az_RH
  by_cases q : a = r
  · rw [if_pos q, if_pos (by omega), q, Nat.sub_self]
    rfl
  · rw [if_neg q]
    by_cases q1 : r < a ∧ a ≤ r + 44
    · rw [if_pos q1, if_pos (by omega)]
    · rw [if_neg q1, if_neg (by omega)]
theorem ri_P0 (h : g r = az_ob 11 (az_z 11)) : ri_P r 0 ri_L0 g = g := by
  funext a
  unfold ri_P
  by_cases q : a = r
  · rw [if_pos q, q, h]; rfl
  · rw [if_neg q, if_neg (by omega)]
theorem ri_all (l0 : lv 0 = some (.ref r)) (h : az_p133 C Q (365, lv, [], (az_RH r S00 g, r + 45, n + 18346))) (hg : g r = az_ob 11 (az_z 11)) : az_p133 C Q (4, lv, [], (g, r + 1, n)) := by
  rw [← ri_P0 hg]
  refine ri_b0 (L := ri_L0) l0 ri_l0 ?_
  refine ri_b1 (L := ri_L1 r) l0 ri_l1 ?_
  refine ri_b2 (L := ri_L2 r) l0 ri_l2 ?_
  refine ri_b3 (L := ri_L3 r) l0 ri_l3 ?_
  refine ri_b4 (L := ri_L4 r) l0 ri_l4 ?_
  refine ri_b5 (L := ri_L5 r) l0 ri_l5 ?_
  refine ri_b6 (L := ri_L6 r) l0 ri_l6 ?_
  refine ri_b7 (L := ri_L7 r) l0 ri_l7 ?_
  refine ri_b8 (L := ri_L8 r) l0 ri_l8 ?_
  refine ri_b9 (L := ri_L9 r) l0 ri_l9 ?_
  refine ri_b10 (L := ri_L10 r) l0 ri_l10 ?_
  refine ri_b11 (L := ri_L11 r) l0 ri_l11 ?_
  refine ri_b12 (L := ri_L12 r) l0 ri_l12 ?_
  refine ri_b13 (L := ri_L13 r) l0 ri_l13 ?_
  refine ri_b14 (L := ri_L14 r) l0 ri_l14 ?_
  refine ri_b15 (L := ri_L15 r) l0 ri_l15 ?_
  refine ri_b16 (L := ri_L16 r) l0 ri_l16 ?_
  refine ri_b17 (L := ri_L17 r) l0 ri_l17 ?_
  refine ri_b18 (L := ri_L18 r) l0 ri_l18 ?_
  refine ri_b19 (L := ri_L19 r) l0 ri_l19 ?_
  refine ri_b20 (L := ri_L20 r) l0 ri_l20 ?_
  refine ri_b21 (L := ri_L21 r) l0 ri_l21 ?_
  refine ri_b22 (L := ri_L22 r) l0 ri_l22 ?_
  refine ri_b23 (L := ri_L23 r) l0 ri_l23 ?_
  refine ri_b24 (L := ri_L24 r) l0 ri_l24 ?_
  refine ri_b25 (L := ri_L25 r) l0 ri_l25 ?_
  refine ri_b26 (L := ri_L26 r) l0 ri_l26 ?_
  refine ri_b27 (L := ri_L27 r) l0 ri_l27 ?_
  refine ri_b28 (L := ri_L28 r) l0 ri_l28 ?_
  refine ri_b29 (L := ri_L29 r) l0 ri_l29 ?_
  refine ri_b30 (L := ri_L30 r) l0 ri_l30 ?_
  refine ri_b31 (L := ri_L31 r) l0 ri_l31 ?_
  refine ri_b32 (L := ri_L32 r) l0 ri_l32 ?_
  refine ri_b33 (L := ri_L33 r) l0 ri_l33 ?_
  refine ri_b34 (L := ri_L34 r) l0 ri_l34 ?_
  refine ri_b35 (L := ri_L35 r) l0 ri_l35 ?_
  refine ri_b36 (L := ri_L36 r) l0 ri_l36 ?_
  refine ri_b37 (L := ri_L37 r) l0 ri_l37 ?_
  refine ri_b38 (L := ri_L38 r) l0 ri_l38 ?_
  refine ri_b39 (L := ri_L39 r) l0 ri_l39 ?_
  refine ri_b40 (L := ri_L40 r) l0 ri_l40 ?_
  refine ri_b41 (L := ri_L41 r) l0 ri_l41 ?_
  refine ri_b42 (L := ri_L42 r) l0 ri_l42 ?_
  refine ri_b43 (L := ri_L43 r) l0 ri_l43 ?_
  refine cast (congrArg (fun x => az_p133 C Q (365, lv, [], x)) ?_) h
  refine Prod.ext (ri_PR.symm.trans ?_) (Prod.ext rfl ?_)
  · rw [← ri_Lf]
    rfl
  · show n + 18346 = n + 16 + 16 + 640 + 16 + 12 + 12 + 12 + 12 + 12 + 24 + 12 + 36 + 36 + 36 + 12 + 12 + 12 + 12 + 12 + 12 + 12 + 36 + 36 + 36 + 120 + 12 + 12 + 12 + 12 + 12 + 1500 + 1500 + 1500 + 6000 + 40 + 40 + 40 + 40 + 1600 + 1600 + 1600 + 1600 + 10 + 12
    omega
def ri_S (m : Int) : az_M := fun k i => if 0 ≤ i ∧ i < m then (if k = 17 then 5 else if k = 21 ∨ k = 22 then -1 else 0) else 0
theorem ri_S0 : ri_S 0 = S00 := by
  funext k i
  unfold ri_S S00
  rw [if_neg (by omega)]
theorem ri_S1 {m : Int} (hm : 0 ≤ m) : az_up (az_up (az_up (ri_S m) 17 m 5) 21 m (-1)) 22 m (-1) = ri_S (m + 1) := by
  funext k i
  unfold ri_S az_up
  grind
set_option maxRecDepth 20000 in
set_option maxHeartbeats 1000000 in
theorem lp_init : ∀ (d : Nat) (m : Int) (lv : az_L), m + d = 12 → 0 ≤ m → lv 0 = some (.ref r) → lv 1 = some (.int (Int32.ofInt m)) → Q none (az_RH r (ri_S 12) g, r + 45, n) → az_p133 C Q (367, lv, [], (az_RH r (ri_S m) g, r + 45, n)) := by
  intro d
  induction d with
  | zero =>
    intro m lv e h0 l0 l1 hq
    have e : m = 12 := by omega
    subst e
    simp only [az_s133_367]
    repeat (first | simp only [az_s133_0, az_s133_1, az_s133_4, az_s133_5, az_s133_7, az_s133_9, az_s133_12, az_s133_13, az_s133_15, az_s133_17, az_s133_20, az_s133_21, az_s133_24, az_s133_26, az_s133_29, az_s133_30, az_s133_32, az_s133_34, az_s133_37, az_s133_38, az_s133_40, az_s133_42, az_s133_45, az_s133_46, az_s133_48, az_s133_50, az_s133_53, az_s133_54, az_s133_56, az_s133_58, az_s133_61, az_s133_62, az_s133_64, az_s133_66, az_s133_69, az_s133_70, az_s133_72, az_s133_74, az_s133_77, az_s133_78, az_s133_80, az_s133_82, az_s133_85, az_s133_86, az_s133_88, az_s133_90, az_s133_93, az_s133_94, az_s133_96, az_s133_98, az_s133_101, az_s133_102, az_s133_104, az_s133_106, az_s133_109, az_s133_110, az_s133_112, az_s133_114, az_s133_117, az_s133_118, az_s133_120, az_s133_122, az_s133_125, az_s133_126, az_s133_128, az_s133_130, az_s133_133, az_s133_134, az_s133_136, az_s133_138, az_s133_141, az_s133_142, az_s133_144, az_s133_146, az_s133_149, az_s133_150, az_s133_152, az_s133_154, az_s133_157, az_s133_158, az_s133_160, az_s133_162, az_s133_165, az_s133_166, az_s133_168, az_s133_170, az_s133_173, az_s133_174, az_s133_176, az_s133_178, az_s133_181, az_s133_182, az_s133_184, az_s133_186, az_s133_189, az_s133_190, az_s133_192, az_s133_194, az_s133_197, az_s133_198, az_s133_200, az_s133_202, az_s133_205, az_s133_206, az_s133_208, az_s133_210, az_s133_213, az_s133_214, az_s133_216, az_s133_218, az_s133_221, az_s133_222, az_s133_224, az_s133_226, az_s133_229, az_s133_230, az_s133_232, az_s133_234, az_s133_237, az_s133_238, az_s133_240, az_s133_242, az_s133_245, az_s133_246, az_s133_249, az_s133_251, az_s133_254, az_s133_255, az_s133_258, az_s133_260, az_s133_263, az_s133_264, az_s133_267, az_s133_269, az_s133_272, az_s133_273, az_s133_276, az_s133_278, az_s133_281, az_s133_282, az_s133_284, az_s133_286, az_s133_289, az_s133_290, az_s133_292, az_s133_294, az_s133_297, az_s133_298, az_s133_300, az_s133_302, az_s133_305, az_s133_306, az_s133_308, az_s133_310, az_s133_313, az_s133_314, az_s133_317, az_s133_319, az_s133_322, az_s133_323, az_s133_326, az_s133_328, az_s133_331, az_s133_332, az_s133_335, az_s133_337, az_s133_340, az_s133_341, az_s133_344, az_s133_346, az_s133_349, az_s133_350, az_s133_352, az_s133_354, az_s133_357, az_s133_358, az_s133_360, az_s133_362, az_s133_365, az_s133_366, az_s133_368, az_s133_370, az_s133_373, az_s133_374, az_s133_377, az_s133_378, az_s133_379, az_s133_380, az_s133_381, az_s133_384, az_s133_385, az_s133_386, az_s133_387, az_s133_388, az_s133_391, az_s133_392, az_s133_393, az_s133_394, az_s133_397, az_s133_400, Int.reduceEq, Int.reduceLT, Int.reduceLE, Int.reduceAdd, Int.reduceMul, Int.reduceSub, Int.reduceNeg, Int.add_zero, Int.zero_add, ge_iff_le, gt_iff_lt, az_mi_s, az_ml_s, az_ma_r, az_ma_n, az_s1_ap, az_s2_ap, az_nl_i, az_nl_r, az_nl_0, az_nl_e, az_nl_l, az_arg_ap, az_arg_e, Value.category, Option.toList, List.cons_append, List.nil_append, az_cat, reduceIte, Nat.reduceAdd, Nat.reduceEqDiff, Nat.reduceLeDiff, Nat.reduceSub, Nat.reduceLT, true_and, and_true, false_and, and_false, not_true_eq_false, not_false_eq_true, implies_true, true_implies, false_implies, and_self, eq_self, if_true, if_false, true_or, or_true, or_false, false_or, Nat.zero_add, Nat.add_zero, Nat.succ_ne_self, Nat.reduceBneDiff, az_Rf0, az_Rf1, az_Rf2, az_Rf3, az_Rr3, az_Rf4, az_Rr4, az_Rf5, az_Rr5, az_Rf6, az_Rr6, az_Rf7, az_Rr7, az_Rf8, az_Rr8, az_Rf9, az_Rr9, az_Rf10, az_Rr10, az_Rf11, az_Rr11, az_Rf12, az_Rr12, az_Rf13, az_Rr13, az_Rf14, az_Rr14, az_Rf15, az_Rr15, az_Rf16, az_Rr16, az_Rf17, az_Rr17, az_Rf18, az_Rr18, az_Rf19, az_Rr19, az_Rf20, az_Rr20, az_Rf21, az_Rr21, az_Rf22, az_Rr22, az_Rf23, az_Rr23, az_Rf24, az_Rr24, az_Rf25, az_Rr25, az_Rf26, az_Rr26, az_Rf27, az_Rr27, az_Rf28, az_Rr28, az_Rf29, az_Rr29, az_Rf30, az_Rr30, az_Rf31, az_Rr31, az_Rf32, az_Rr32, az_Rf33, az_Rf34, az_Rr34, az_Rf35, az_Rr35, az_Rf36, az_Rr36, az_Rf37, az_Rr37, az_Rf38, az_Rf39, az_Rr39, az_Rf40, az_Rr40, az_Rf41, az_Rr41, az_Rf42, az_Rr42, az_Rf43, az_Rf44, az_Rr44, az_Rf45, az_Rr45, az_Rf46, az_Rr46, az_Rf47, az_Rr47, az_Rf48, az_Rf49, az_Rf50, az_Rf51, az_Rf52, az_Rf53, az_Rr53, az_Rf54, az_Rr54, az_Ris, az_Rw0, az_Ru0, az_Rw1, az_Ru1, az_Rw2, az_Ru2, az_Rw3, az_Ru3, az_Rw4, az_Ru4, az_Rw5, az_Ru5, az_Rw6, az_Ru6, az_Rw7, az_Ru7, az_Rw8, az_Ru8, az_Rw9, az_Ru9, az_Rw10, az_Ru10, az_Rw11, az_Ru11, az_Rw12, az_Ru12, az_Rw13, az_Ru13, az_Rw14, az_Ru14, az_Rw15, az_Ru15, az_Rw16, az_Ru16, az_Rw17, az_Ru17, az_Rw18, az_Ru18, az_Rw19, az_Ru19, az_Rw20, az_Ru20, az_Rw21, az_Ru21, az_Rw22, az_Ru22, az_Rw23, az_Ru23, az_Rw24, az_Ru24, az_Rw25, az_Ru25, az_Rw26, az_Ru26, az_Rw27, az_Ru27, az_Rw28, az_Ru28, az_Rw29, az_Ru29, az_Rw30, az_Ru30, az_Rw31, az_Ru31, az_Rw32, az_Ru32, az_Rw33, az_Ru33, az_Rw34, az_Ru34, az_Rw35, az_Ru35, az_Rw36, az_Ru36, az_Rw37, az_Ru37, az_Rw38, az_Ru38, az_Rw39, az_Ru39, az_Rw40, az_Ru40, az_Rw41, az_Ru41, az_Rw42, az_Ru42, az_Rw43, az_Ru43, az_Rw44, az_Ru44, az_Rw45, az_Ru45, az_Rw46, az_Ru46, az_Rw47, az_Ru47, az_Rw48, az_Ru48, az_Rw49, az_Ru49, az_Rw50, az_Ru50, az_Rw51, az_Ru51, az_Rw52, az_Ru52, az_Rw53, az_Ru53, az_Rw54, az_Ru54] | simp (disch := first | omega | (simp (disch := omega) only [az_up_ee, az_up_kn, az_up_en]; omega)) only [Int.reduceEq, Int.reduceLT, Int.reduceLE, Int.reduceAdd, Int.reduceMul, Int.reduceSub, Int.reduceNeg, Int.add_zero, Int.zero_add, ge_iff_le, gt_iff_lt, az_mi_s, az_ml_s, az_ma_r, az_ma_n, az_s1_ap, az_s2_ap, az_nl_i, az_nl_r, az_nl_0, az_nl_e, az_nl_l, az_arg_ap, az_arg_e, Value.category, Option.toList, List.cons_append, List.nil_append, az_cat, reduceIte, Nat.reduceAdd, Nat.reduceEqDiff, Nat.reduceLeDiff, Nat.reduceSub, Nat.reduceLT, true_and, and_true, false_and, and_false, not_true_eq_false, not_false_eq_true, implies_true, true_implies, false_implies, and_self, eq_self, if_true, if_false, true_or, or_true, or_false, false_or, Nat.zero_add, Nat.add_zero, Nat.succ_ne_self, Nat.reduceBneDiff, lc_gt, lc_le, lc_eq, lz_toInt, lz_add, lz_sub, lz_mul, lz_i2l, lz_l2i, lz_div, lz_eq, lz_eq0, lz_rv, az_add, az_sub, az_mul, az_toInt, az_le, az_lt, az_eq, az_le0, az_0le, az_lt0, az_0lt, az_eq0, az_eq1, az_up_ee, az_up_kn, az_up_en, az_rb0, az_rb1, az_rbi, az_rbx, az_rvI, az_bo, az_b01, az_bz, az_b0, az_b1, az_nn, l0, l1, hq] | simp (config := {contextual := true}) (disch := first | omega | (simp (disch := omega) only [az_up_ee, az_up_kn, az_up_en]; omega)) only [Int.reduceEq, Int.reduceLT, Int.reduceLE, Int.reduceAdd, Int.reduceMul, Int.reduceSub, Int.reduceNeg, Int.add_zero, Int.zero_add, ge_iff_le, gt_iff_lt, az_mi_s, az_ml_s, az_ma_r, az_ma_n, az_s1_ap, az_s2_ap, az_nl_i, az_nl_r, az_nl_0, az_nl_e, az_nl_l, az_arg_ap, az_arg_e, Value.category, Option.toList, List.cons_append, List.nil_append, az_cat, reduceIte, Nat.reduceAdd, Nat.reduceEqDiff, Nat.reduceLeDiff, Nat.reduceSub, Nat.reduceLT, true_and, and_true, false_and, and_false, not_true_eq_false, not_false_eq_true, implies_true, true_implies, false_implies, and_self, eq_self, if_true, if_false, true_or, or_true, or_false, false_or, Nat.zero_add, Nat.add_zero, Nat.succ_ne_self, Nat.reduceBneDiff, lc_gt, lc_le, lc_eq, lz_toInt, lz_add, lz_sub, lz_mul, lz_i2l, lz_l2i, lz_div, lz_eq, lz_eq0, lz_rv, az_add, az_sub, az_mul, az_toInt, az_le, az_lt, az_eq, az_le0, az_0le, az_lt0, az_0lt, az_eq0, az_eq1, az_up_ee, az_up_kn, az_up_en, az_rb0, az_rb1, az_rbi, az_rbx, az_rvI, az_bo, az_b01, az_bz, az_b0, az_b1, az_nn, l0, l1, hq])
  | succ d ih =>
    intro m lv e h0 l0 l1 hq
    have hm : ¬ (12 : Int) ≤ m := by omega
    simp only [az_s133_367]
    repeat (first | simp only [az_s133_0, az_s133_1, az_s133_4, az_s133_5, az_s133_7, az_s133_9, az_s133_12, az_s133_13, az_s133_15, az_s133_17, az_s133_20, az_s133_21, az_s133_24, az_s133_26, az_s133_29, az_s133_30, az_s133_32, az_s133_34, az_s133_37, az_s133_38, az_s133_40, az_s133_42, az_s133_45, az_s133_46, az_s133_48, az_s133_50, az_s133_53, az_s133_54, az_s133_56, az_s133_58, az_s133_61, az_s133_62, az_s133_64, az_s133_66, az_s133_69, az_s133_70, az_s133_72, az_s133_74, az_s133_77, az_s133_78, az_s133_80, az_s133_82, az_s133_85, az_s133_86, az_s133_88, az_s133_90, az_s133_93, az_s133_94, az_s133_96, az_s133_98, az_s133_101, az_s133_102, az_s133_104, az_s133_106, az_s133_109, az_s133_110, az_s133_112, az_s133_114, az_s133_117, az_s133_118, az_s133_120, az_s133_122, az_s133_125, az_s133_126, az_s133_128, az_s133_130, az_s133_133, az_s133_134, az_s133_136, az_s133_138, az_s133_141, az_s133_142, az_s133_144, az_s133_146, az_s133_149, az_s133_150, az_s133_152, az_s133_154, az_s133_157, az_s133_158, az_s133_160, az_s133_162, az_s133_165, az_s133_166, az_s133_168, az_s133_170, az_s133_173, az_s133_174, az_s133_176, az_s133_178, az_s133_181, az_s133_182, az_s133_184, az_s133_186, az_s133_189, az_s133_190, az_s133_192, az_s133_194, az_s133_197, az_s133_198, az_s133_200, az_s133_202, az_s133_205, az_s133_206, az_s133_208, az_s133_210, az_s133_213, az_s133_214, az_s133_216, az_s133_218, az_s133_221, az_s133_222, az_s133_224, az_s133_226, az_s133_229, az_s133_230, az_s133_232, az_s133_234, az_s133_237, az_s133_238, az_s133_240, az_s133_242, az_s133_245, az_s133_246, az_s133_249, az_s133_251, az_s133_254, az_s133_255, az_s133_258, az_s133_260, az_s133_263, az_s133_264, az_s133_267, az_s133_269, az_s133_272, az_s133_273, az_s133_276, az_s133_278, az_s133_281, az_s133_282, az_s133_284, az_s133_286, az_s133_289, az_s133_290, az_s133_292, az_s133_294, az_s133_297, az_s133_298, az_s133_300, az_s133_302, az_s133_305, az_s133_306, az_s133_308, az_s133_310, az_s133_313, az_s133_314, az_s133_317, az_s133_319, az_s133_322, az_s133_323, az_s133_326, az_s133_328, az_s133_331, az_s133_332, az_s133_335, az_s133_337, az_s133_340, az_s133_341, az_s133_344, az_s133_346, az_s133_349, az_s133_350, az_s133_352, az_s133_354, az_s133_357, az_s133_358, az_s133_360, az_s133_362, az_s133_365, az_s133_366, az_s133_368, az_s133_370, az_s133_373, az_s133_374, az_s133_377, az_s133_378, az_s133_379, az_s133_380, az_s133_381, az_s133_384, az_s133_385, az_s133_386, az_s133_387, az_s133_388, az_s133_391, az_s133_392, az_s133_393, az_s133_394, az_s133_397, az_s133_400, Int.reduceEq, Int.reduceLT, Int.reduceLE, Int.reduceAdd, Int.reduceMul, Int.reduceSub, Int.reduceNeg, Int.add_zero, Int.zero_add, ge_iff_le, gt_iff_lt, az_mi_s, az_ml_s, az_ma_r, az_ma_n, az_s1_ap, az_s2_ap, az_nl_i, az_nl_r, az_nl_0, az_nl_e, az_nl_l, az_arg_ap, az_arg_e, Value.category, Option.toList, List.cons_append, List.nil_append, az_cat, reduceIte, Nat.reduceAdd, Nat.reduceEqDiff, Nat.reduceLeDiff, Nat.reduceSub, Nat.reduceLT, true_and, and_true, false_and, and_false, not_true_eq_false, not_false_eq_true, implies_true, true_implies, false_implies, and_self, eq_self, if_true, if_false, true_or, or_true, or_false, false_or, Nat.zero_add, Nat.add_zero, Nat.succ_ne_self, Nat.reduceBneDiff, az_Rf0, az_Rf1, az_Rf2, az_Rf3, az_Rr3, az_Rf4, az_Rr4, az_Rf5, az_Rr5, az_Rf6, az_Rr6, az_Rf7, az_Rr7, az_Rf8, az_Rr8, az_Rf9, az_Rr9, az_Rf10, az_Rr10, az_Rf11, az_Rr11, az_Rf12, az_Rr12, az_Rf13, az_Rr13, az_Rf14, az_Rr14, az_Rf15, az_Rr15, az_Rf16, az_Rr16, az_Rf17, az_Rr17, az_Rf18, az_Rr18, az_Rf19, az_Rr19, az_Rf20, az_Rr20, az_Rf21, az_Rr21, az_Rf22, az_Rr22, az_Rf23, az_Rr23, az_Rf24, az_Rr24, az_Rf25, az_Rr25, az_Rf26, az_Rr26, az_Rf27, az_Rr27, az_Rf28, az_Rr28, az_Rf29, az_Rr29, az_Rf30, az_Rr30, az_Rf31, az_Rr31, az_Rf32, az_Rr32, az_Rf33, az_Rf34, az_Rr34, az_Rf35, az_Rr35, az_Rf36, az_Rr36, az_Rf37, az_Rr37, az_Rf38, az_Rf39, az_Rr39, az_Rf40, az_Rr40, az_Rf41, az_Rr41, az_Rf42, az_Rr42, az_Rf43, az_Rf44, az_Rr44, az_Rf45, az_Rr45, az_Rf46, az_Rr46, az_Rf47, az_Rr47, az_Rf48, az_Rf49, az_Rf50, az_Rf51, az_Rf52, az_Rf53, az_Rr53, az_Rf54, az_Rr54, az_Ris, az_Rw0, az_Ru0, az_Rw1, az_Ru1, az_Rw2, az_Ru2, az_Rw3, az_Ru3, az_Rw4, az_Ru4, az_Rw5, az_Ru5, az_Rw6, az_Ru6, az_Rw7, az_Ru7, az_Rw8, az_Ru8, az_Rw9, az_Ru9, az_Rw10, az_Ru10, az_Rw11, az_Ru11, az_Rw12, az_Ru12, az_Rw13, az_Ru13, az_Rw14, az_Ru14, az_Rw15, az_Ru15, az_Rw16, az_Ru16, az_Rw17, az_Ru17, az_Rw18, az_Ru18, az_Rw19, az_Ru19, az_Rw20, az_Ru20, az_Rw21, az_Ru21, az_Rw22, az_Ru22, az_Rw23, az_Ru23, az_Rw24, az_Ru24, az_Rw25, az_Ru25, az_Rw26, az_Ru26, az_Rw27, az_Ru27, az_Rw28, az_Ru28, az_Rw29, az_Ru29, az_Rw30, az_Ru30, az_Rw31, az_Ru31, az_Rw32, az_Ru32, az_Rw33, az_Ru33, az_Rw34, az_Ru34, az_Rw35, az_Ru35, az_Rw36, az_Ru36, az_Rw37, az_Ru37, az_Rw38, az_Ru38, az_Rw39, az_Ru39, az_Rw40, az_Ru40, az_Rw41, az_Ru41, az_Rw42, az_Ru42, az_Rw43, az_Ru43, az_Rw44, az_Ru44, az_Rw45, az_Ru45, az_Rw46, az_Ru46, az_Rw47, az_Ru47, az_Rw48, az_Ru48, az_Rw49, az_Ru49, az_Rw50, az_Ru50, az_Rw51, az_Ru51, az_Rw52, az_Ru52, az_Rw53, az_Ru53, az_Rw54, az_Ru54] | simp (disch := first | omega | (simp (disch := omega) only [az_up_ee, az_up_kn, az_up_en]; omega)) only [Int.reduceEq, Int.reduceLT, Int.reduceLE, Int.reduceAdd, Int.reduceMul, Int.reduceSub, Int.reduceNeg, Int.add_zero, Int.zero_add, ge_iff_le, gt_iff_lt, az_mi_s, az_ml_s, az_ma_r, az_ma_n, az_s1_ap, az_s2_ap, az_nl_i, az_nl_r, az_nl_0, az_nl_e, az_nl_l, az_arg_ap, az_arg_e, Value.category, Option.toList, List.cons_append, List.nil_append, az_cat, reduceIte, Nat.reduceAdd, Nat.reduceEqDiff, Nat.reduceLeDiff, Nat.reduceSub, Nat.reduceLT, true_and, and_true, false_and, and_false, not_true_eq_false, not_false_eq_true, implies_true, true_implies, false_implies, and_self, eq_self, if_true, if_false, true_or, or_true, or_false, false_or, Nat.zero_add, Nat.add_zero, Nat.succ_ne_self, Nat.reduceBneDiff, lc_gt, lc_le, lc_eq, lz_toInt, lz_add, lz_sub, lz_mul, lz_i2l, lz_l2i, lz_div, lz_eq, lz_eq0, lz_rv, az_add, az_sub, az_mul, az_toInt, az_le, az_lt, az_eq, az_le0, az_0le, az_lt0, az_0lt, az_eq0, az_eq1, az_up_ee, az_up_kn, az_up_en, az_rb0, az_rb1, az_rbi, az_rbx, az_rvI, az_bo, az_b01, az_bz, az_b0, az_b1, az_nn, l0, l1, hm] | simp (config := {contextual := true}) (disch := first | omega | (simp (disch := omega) only [az_up_ee, az_up_kn, az_up_en]; omega)) only [Int.reduceEq, Int.reduceLT, Int.reduceLE, Int.reduceAdd, Int.reduceMul, Int.reduceSub, Int.reduceNeg, Int.add_zero, Int.zero_add, ge_iff_le, gt_iff_lt, az_mi_s, az_ml_s, az_ma_r, az_ma_n, az_s1_ap, az_s2_ap, az_nl_i, az_nl_r, az_nl_0, az_nl_e, az_nl_l, az_arg_ap, az_arg_e, Value.category, Option.toList, List.cons_append, List.nil_append, az_cat, reduceIte, Nat.reduceAdd, Nat.reduceEqDiff, Nat.reduceLeDiff, Nat.reduceSub, Nat.reduceLT, true_and, and_true, false_and, and_false, not_true_eq_false, not_false_eq_true, implies_true, true_implies, false_implies, and_self, eq_self, if_true, if_false, true_or, or_true, or_false, false_or, Nat.zero_add, Nat.add_zero, Nat.succ_ne_self, Nat.reduceBneDiff, lc_gt, lc_le, lc_eq, lz_toInt, lz_add, lz_sub, lz_mul, lz_i2l, lz_l2i, lz_div, lz_eq, lz_eq0, lz_rv, az_add, az_sub, az_mul, az_toInt, az_le, az_lt, az_eq, az_le0, az_0le, az_lt0, az_0lt, az_eq0, az_eq1, az_up_ee, az_up_kn, az_up_en, az_rb0, az_rb1, az_rbi, az_rbx, az_rvI, az_bo, az_b01, az_bz, az_b0, az_b1, az_nn, l0, l1, hm])
    repeat (with_reducible refine And.intro ?_ ?_; · omega)
    rw [ri_S1 h0]
    refine ih (m + 1) _ (by omega) (by omega) ?_ ?_ hq
    · try simp (disch := omega) only [Int.reduceEq, Int.reduceLT, Int.reduceLE, Int.reduceAdd, Int.reduceMul, Int.reduceSub, Int.reduceNeg, Int.add_zero, Int.zero_add, ge_iff_le, gt_iff_lt, az_mi_s, az_ml_s, az_ma_r, az_ma_n, az_s1_ap, az_s2_ap, az_nl_i, az_nl_r, az_nl_0, az_nl_e, az_nl_l, az_arg_ap, az_arg_e, Value.category, Option.toList, List.cons_append, List.nil_append, az_cat, reduceIte, Nat.reduceAdd, Nat.reduceEqDiff, Nat.reduceLeDiff, Nat.reduceSub, Nat.reduceLT, true_and, and_true, false_and, and_false, not_true_eq_false, not_false_eq_true, implies_true, true_implies, false_implies, and_self, eq_self, if_true, if_false, true_or, or_true, or_false, false_or, Nat.zero_add, Nat.add_zero, Nat.succ_ne_self, Nat.reduceBneDiff, lc_gt, lc_le, lc_eq, lz_toInt, lz_add, lz_sub, lz_mul, lz_i2l, lz_l2i, lz_div, lz_eq, lz_eq0, lz_rv, az_add, az_sub, az_mul, az_toInt, az_le, az_lt, az_eq, az_le0, az_0le, az_lt0, az_0lt, az_eq0, az_eq1, az_up_ee, az_up_kn, az_up_en, az_rb0, az_rb1, az_rbi, az_rbx, az_rvI, az_bo, az_b01, az_bz, az_b0, az_b1, az_nn, az_up_ap, l0]
    · try simp (disch := omega) only [Int.reduceEq, Int.reduceLT, Int.reduceLE, Int.reduceAdd, Int.reduceMul, Int.reduceSub, Int.reduceNeg, Int.add_zero, Int.zero_add, ge_iff_le, gt_iff_lt, az_mi_s, az_ml_s, az_ma_r, az_ma_n, az_s1_ap, az_s2_ap, az_nl_i, az_nl_r, az_nl_0, az_nl_e, az_nl_l, az_arg_ap, az_arg_e, Value.category, Option.toList, List.cons_append, List.nil_append, az_cat, reduceIte, Nat.reduceAdd, Nat.reduceEqDiff, Nat.reduceLeDiff, Nat.reduceSub, Nat.reduceLT, true_and, and_true, false_and, and_false, not_true_eq_false, not_false_eq_true, implies_true, true_implies, false_implies, and_self, eq_self, if_true, if_false, true_or, or_true, or_false, false_or, Nat.zero_add, Nat.add_zero, Nat.succ_ne_self, Nat.reduceBneDiff, lc_gt, lc_le, lc_eq, lz_toInt, lz_add, lz_sub, lz_mul, lz_i2l, lz_l2i, lz_div, lz_eq, lz_eq0, lz_rv, az_add, az_sub, az_mul, az_toInt, az_le, az_lt, az_eq, az_le0, az_0le, az_lt0, az_0lt, az_eq0, az_eq1, az_up_ee, az_up_kn, az_up_en, az_rb0, az_rb1, az_rbi, az_rbx, az_rvI, az_bo, az_b01, az_bz, az_b0, az_b1, az_nn, az_up_ap, l1]
set_option maxRecDepth 20000 in
set_option maxHeartbeats 1000000 in
theorem cm_refInit {m : Nat} (hg : g r = az_ob 11 (az_z 11)) : az_ex az_T (m + 1) 133 [.ref r] (g, r + 1, n) none (az_RH r S0 g, r + 45, n + 18346) := by
  refine az_ex_eq (R := az_r133) rfl (Nat.le_of_ble_eq_true rfl) ?_
  show az_p133 _ _ _
  rw [az_s133_0]
  simp only [az_s133_1, Int.reduceEq, Int.reduceLT, Int.reduceLE, Int.reduceAdd, Int.reduceMul, Int.reduceSub, Int.reduceNeg, Int.add_zero, Int.zero_add, ge_iff_le, gt_iff_lt, az_mi_s, az_ml_s, az_ma_r, az_ma_n, az_s1_ap, az_s2_ap, az_nl_i, az_nl_r, az_nl_0, az_nl_e, az_nl_l, az_arg_ap, az_arg_e, Value.category, Option.toList, List.cons_append, List.nil_append, az_cat, reduceIte, Nat.reduceAdd, Nat.reduceEqDiff, Nat.reduceLeDiff, Nat.reduceSub, Nat.reduceLT, true_and, and_true, false_and, and_false, not_true_eq_false, not_false_eq_true, implies_true, true_implies, false_implies, and_self, eq_self, if_true, if_false, true_or, or_true, or_false, false_or, Nat.zero_add, Nat.add_zero, Nat.succ_ne_self, Nat.reduceBneDiff]
  refine ri_all rfl ?_ hg
  rw [← ri_S0]
  repeat (first | simp only [az_s133_0, az_s133_1, az_s133_4, az_s133_5, az_s133_7, az_s133_9, az_s133_12, az_s133_13, az_s133_15, az_s133_17, az_s133_20, az_s133_21, az_s133_24, az_s133_26, az_s133_29, az_s133_30, az_s133_32, az_s133_34, az_s133_37, az_s133_38, az_s133_40, az_s133_42, az_s133_45, az_s133_46, az_s133_48, az_s133_50, az_s133_53, az_s133_54, az_s133_56, az_s133_58, az_s133_61, az_s133_62, az_s133_64, az_s133_66, az_s133_69, az_s133_70, az_s133_72, az_s133_74, az_s133_77, az_s133_78, az_s133_80, az_s133_82, az_s133_85, az_s133_86, az_s133_88, az_s133_90, az_s133_93, az_s133_94, az_s133_96, az_s133_98, az_s133_101, az_s133_102, az_s133_104, az_s133_106, az_s133_109, az_s133_110, az_s133_112, az_s133_114, az_s133_117, az_s133_118, az_s133_120, az_s133_122, az_s133_125, az_s133_126, az_s133_128, az_s133_130, az_s133_133, az_s133_134, az_s133_136, az_s133_138, az_s133_141, az_s133_142, az_s133_144, az_s133_146, az_s133_149, az_s133_150, az_s133_152, az_s133_154, az_s133_157, az_s133_158, az_s133_160, az_s133_162, az_s133_165, az_s133_166, az_s133_168, az_s133_170, az_s133_173, az_s133_174, az_s133_176, az_s133_178, az_s133_181, az_s133_182, az_s133_184, az_s133_186, az_s133_189, az_s133_190, az_s133_192, az_s133_194, az_s133_197, az_s133_198, az_s133_200, az_s133_202, az_s133_205, az_s133_206, az_s133_208, az_s133_210, az_s133_213, az_s133_214, az_s133_216, az_s133_218, az_s133_221, az_s133_222, az_s133_224, az_s133_226, az_s133_229, az_s133_230, az_s133_232, az_s133_234, az_s133_237, az_s133_238, az_s133_240, az_s133_242, az_s133_245, az_s133_246, az_s133_249, az_s133_251, az_s133_254, az_s133_255, az_s133_258, az_s133_260, az_s133_263, az_s133_264, az_s133_267, az_s133_269, az_s133_272, az_s133_273, az_s133_276, az_s133_278, az_s133_281, az_s133_282, az_s133_284, az_s133_286, az_s133_289, az_s133_290, az_s133_292, az_s133_294, az_s133_297, az_s133_298, az_s133_300, az_s133_302, az_s133_305, az_s133_306, az_s133_308, az_s133_310, az_s133_313, az_s133_314, az_s133_317, az_s133_319, az_s133_322, az_s133_323, az_s133_326, az_s133_328, az_s133_331, az_s133_332, az_s133_335, az_s133_337, az_s133_340, az_s133_341, az_s133_344, az_s133_346, az_s133_349, az_s133_350, az_s133_352, az_s133_354, az_s133_357, az_s133_358, az_s133_360, az_s133_362, az_s133_365, az_s133_366, az_s133_368, az_s133_370, az_s133_373, az_s133_374, az_s133_377, az_s133_378, az_s133_379, az_s133_380, az_s133_381, az_s133_384, az_s133_385, az_s133_386, az_s133_387, az_s133_388, az_s133_391, az_s133_392, az_s133_393, az_s133_394, az_s133_397, az_s133_400, Int.reduceEq, Int.reduceLT, Int.reduceLE, Int.reduceAdd, Int.reduceMul, Int.reduceSub, Int.reduceNeg, Int.add_zero, Int.zero_add, ge_iff_le, gt_iff_lt, az_mi_s, az_ml_s, az_ma_r, az_ma_n, az_s1_ap, az_s2_ap, az_nl_i, az_nl_r, az_nl_0, az_nl_e, az_nl_l, az_arg_ap, az_arg_e, Value.category, Option.toList, List.cons_append, List.nil_append, az_cat, reduceIte, Nat.reduceAdd, Nat.reduceEqDiff, Nat.reduceLeDiff, Nat.reduceSub, Nat.reduceLT, true_and, and_true, false_and, and_false, not_true_eq_false, not_false_eq_true, implies_true, true_implies, false_implies, and_self, eq_self, if_true, if_false, true_or, or_true, or_false, false_or, Nat.zero_add, Nat.add_zero, Nat.succ_ne_self, Nat.reduceBneDiff, az_Rf0, az_Rf1, az_Rf2, az_Rf3, az_Rr3, az_Rf4, az_Rr4, az_Rf5, az_Rr5, az_Rf6, az_Rr6, az_Rf7, az_Rr7, az_Rf8, az_Rr8, az_Rf9, az_Rr9, az_Rf10, az_Rr10, az_Rf11, az_Rr11, az_Rf12, az_Rr12, az_Rf13, az_Rr13, az_Rf14, az_Rr14, az_Rf15, az_Rr15, az_Rf16, az_Rr16, az_Rf17, az_Rr17, az_Rf18, az_Rr18, az_Rf19, az_Rr19, az_Rf20, az_Rr20, az_Rf21, az_Rr21, az_Rf22, az_Rr22, az_Rf23, az_Rr23, az_Rf24, az_Rr24, az_Rf25, az_Rr25, az_Rf26, az_Rr26, az_Rf27, az_Rr27, az_Rf28, az_Rr28, az_Rf29, az_Rr29, az_Rf30, az_Rr30, az_Rf31, az_Rr31, az_Rf32, az_Rr32, az_Rf33, az_Rf34, az_Rr34, az_Rf35, az_Rr35, az_Rf36, az_Rr36, az_Rf37, az_Rr37, az_Rf38, az_Rf39, az_Rr39, az_Rf40, az_Rr40, az_Rf41, az_Rr41, az_Rf42, az_Rr42, az_Rf43, az_Rf44, az_Rr44, az_Rf45, az_Rr45, az_Rf46, az_Rr46, az_Rf47, az_Rr47, az_Rf48, az_Rf49, az_Rf50, az_Rf51, az_Rf52, az_Rf53, az_Rr53, az_Rf54, az_Rr54, az_Ris, az_Rw0, az_Ru0, az_Rw1, az_Ru1, az_Rw2, az_Ru2, az_Rw3, az_Ru3, az_Rw4, az_Ru4, az_Rw5, az_Ru5, az_Rw6, az_Ru6, az_Rw7, az_Ru7, az_Rw8, az_Ru8, az_Rw9, az_Ru9, az_Rw10, az_Ru10, az_Rw11, az_Ru11, az_Rw12, az_Ru12, az_Rw13, az_Ru13, az_Rw14, az_Ru14, az_Rw15, az_Ru15, az_Rw16, az_Ru16, az_Rw17, az_Ru17, az_Rw18, az_Ru18, az_Rw19, az_Ru19, az_Rw20, az_Ru20, az_Rw21, az_Ru21, az_Rw22, az_Ru22, az_Rw23, az_Ru23, az_Rw24, az_Ru24, az_Rw25, az_Ru25, az_Rw26, az_Ru26, az_Rw27, az_Ru27, az_Rw28, az_Ru28, az_Rw29, az_Ru29, az_Rw30, az_Ru30, az_Rw31, az_Ru31, az_Rw32, az_Ru32, az_Rw33, az_Ru33, az_Rw34, az_Ru34, az_Rw35, az_Ru35, az_Rw36, az_Ru36, az_Rw37, az_Ru37, az_Rw38, az_Ru38, az_Rw39, az_Ru39, az_Rw40, az_Ru40, az_Rw41, az_Ru41, az_Rw42, az_Ru42, az_Rw43, az_Ru43, az_Rw44, az_Ru44, az_Rw45, az_Ru45, az_Rw46, az_Ru46, az_Rw47, az_Ru47, az_Rw48, az_Ru48, az_Rw49, az_Ru49, az_Rw50, az_Ru50, az_Rw51, az_Ru51, az_Rw52, az_Ru52, az_Rw53, az_Ru53, az_Rw54, az_Ru54] | simp (disch := first | omega | (simp (disch := omega) only [az_up_ee, az_up_kn, az_up_en]; omega)) only [Int.reduceEq, Int.reduceLT, Int.reduceLE, Int.reduceAdd, Int.reduceMul, Int.reduceSub, Int.reduceNeg, Int.add_zero, Int.zero_add, ge_iff_le, gt_iff_lt, az_mi_s, az_ml_s, az_ma_r, az_ma_n, az_s1_ap, az_s2_ap, az_nl_i, az_nl_r, az_nl_0, az_nl_e, az_nl_l, az_arg_ap, az_arg_e, Value.category, Option.toList, List.cons_append, List.nil_append, az_cat, reduceIte, Nat.reduceAdd, Nat.reduceEqDiff, Nat.reduceLeDiff, Nat.reduceSub, Nat.reduceLT, true_and, and_true, false_and, and_false, not_true_eq_false, not_false_eq_true, implies_true, true_implies, false_implies, and_self, eq_self, if_true, if_false, true_or, or_true, or_false, false_or, Nat.zero_add, Nat.add_zero, Nat.succ_ne_self, Nat.reduceBneDiff, lc_gt, lc_le, lc_eq, lz_toInt, lz_add, lz_sub, lz_mul, lz_i2l, lz_l2i, lz_div, lz_eq, lz_eq0, lz_rv, az_add, az_sub, az_mul, az_toInt, az_le, az_lt, az_eq, az_le0, az_0le, az_lt0, az_0lt, az_eq0, az_eq1, az_up_ee, az_up_kn, az_up_en, az_rb0, az_rb1, az_rbi, az_rbx, az_rvI, az_bo, az_b01, az_bz, az_b0, az_b1, az_nn] | simp (config := {contextual := true}) (disch := first | omega | (simp (disch := omega) only [az_up_ee, az_up_kn, az_up_en]; omega)) only [Int.reduceEq, Int.reduceLT, Int.reduceLE, Int.reduceAdd, Int.reduceMul, Int.reduceSub, Int.reduceNeg, Int.add_zero, Int.zero_add, ge_iff_le, gt_iff_lt, az_mi_s, az_ml_s, az_ma_r, az_ma_n, az_s1_ap, az_s2_ap, az_nl_i, az_nl_r, az_nl_0, az_nl_e, az_nl_l, az_arg_ap, az_arg_e, Value.category, Option.toList, List.cons_append, List.nil_append, az_cat, reduceIte, Nat.reduceAdd, Nat.reduceEqDiff, Nat.reduceLeDiff, Nat.reduceSub, Nat.reduceLT, true_and, and_true, false_and, and_false, not_true_eq_false, not_false_eq_true, implies_true, true_implies, false_implies, and_self, eq_self, if_true, if_false, true_or, or_true, or_false, false_or, Nat.zero_add, Nat.add_zero, Nat.succ_ne_self, Nat.reduceBneDiff, lc_gt, lc_le, lc_eq, lz_toInt, lz_add, lz_sub, lz_mul, lz_i2l, lz_l2i, lz_div, lz_eq, lz_eq0, lz_rv, az_add, az_sub, az_mul, az_toInt, az_le, az_lt, az_eq, az_le0, az_0le, az_lt0, az_0lt, az_eq0, az_eq1, az_up_ee, az_up_kn, az_up_en, az_rb0, az_rb1, az_rbi, az_rbx, az_rvI, az_bo, az_b01, az_bz, az_b0, az_b1, az_nn])
  refine lp_init 12 0 _ (by omega) (by omega) ?_ ?_ ⟨rfl, rfl⟩
  · try simp (disch := omega) only [Int.reduceEq, Int.reduceLT, Int.reduceLE, Int.reduceAdd, Int.reduceMul, Int.reduceSub, Int.reduceNeg, Int.add_zero, Int.zero_add, ge_iff_le, gt_iff_lt, az_mi_s, az_ml_s, az_ma_r, az_ma_n, az_s1_ap, az_s2_ap, az_nl_i, az_nl_r, az_nl_0, az_nl_e, az_nl_l, az_arg_ap, az_arg_e, Value.category, Option.toList, List.cons_append, List.nil_append, az_cat, reduceIte, Nat.reduceAdd, Nat.reduceEqDiff, Nat.reduceLeDiff, Nat.reduceSub, Nat.reduceLT, true_and, and_true, false_and, and_false, not_true_eq_false, not_false_eq_true, implies_true, true_implies, false_implies, and_self, eq_self, if_true, if_false, true_or, or_true, or_false, false_or, Nat.zero_add, Nat.add_zero, Nat.succ_ne_self, Nat.reduceBneDiff, lc_gt, lc_le, lc_eq, lz_toInt, lz_add, lz_sub, lz_mul, lz_i2l, lz_l2i, lz_div, lz_eq, lz_eq0, lz_rv, az_add, az_sub, az_mul, az_toInt, az_le, az_lt, az_eq, az_le0, az_0le, az_lt0, az_0lt, az_eq0, az_eq1, az_up_ee, az_up_kn, az_up_en, az_rb0, az_rb1, az_rbi, az_rbx, az_rvI, az_bo, az_b01, az_bz, az_b0, az_b1, az_nn, az_up_ap]
  · try simp (disch := omega) only [Int.reduceEq, Int.reduceLT, Int.reduceLE, Int.reduceAdd, Int.reduceMul, Int.reduceSub, Int.reduceNeg, Int.add_zero, Int.zero_add, ge_iff_le, gt_iff_lt, az_mi_s, az_ml_s, az_ma_r, az_ma_n, az_s1_ap, az_s2_ap, az_nl_i, az_nl_r, az_nl_0, az_nl_e, az_nl_l, az_arg_ap, az_arg_e, Value.category, Option.toList, List.cons_append, List.nil_append, az_cat, reduceIte, Nat.reduceAdd, Nat.reduceEqDiff, Nat.reduceLeDiff, Nat.reduceSub, Nat.reduceLT, true_and, and_true, false_and, and_false, not_true_eq_false, not_false_eq_true, implies_true, true_implies, false_implies, and_self, eq_self, if_true, if_false, true_or, or_true, or_false, false_or, Nat.zero_add, Nat.add_zero, Nat.succ_ne_self, Nat.reduceBneDiff, lc_gt, lc_le, lc_eq, lz_toInt, lz_add, lz_sub, lz_mul, lz_i2l, lz_l2i, lz_div, lz_eq, lz_eq0, lz_rv, az_add, az_sub, az_mul, az_toInt, az_le, az_lt, az_eq, az_le0, az_0le, az_lt0, az_0lt, az_eq0, az_eq1, az_up_ee, az_up_kn, az_up_en, az_rb0, az_rb1, az_rbi, az_rbx, az_rvI, az_bo, az_b01, az_bz, az_b0, az_b1, az_nn, az_up_ap]
end UA
