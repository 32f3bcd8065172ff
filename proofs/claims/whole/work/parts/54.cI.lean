-- deps: 31.mL 32.mM 43.cls 44.sta 44.stb 44.stc 44.std 45.cA 46.cB 47.cC 48.cD 51.cG 53.cH
/-! ===== the class: new LOTS ===== -/
def cz_len (L : Nat) : Prop := L = 64 ∨ L = 128 ∨ L = 256 ∨ L = 512 ∨ L = 1024 ∨ L = 1500
def cz_k1 (L : Nat) : Nat := if L ≤ 64 then 0 else if L ≤ 128 then 4 else if L ≤ 256 then 8 else if L ≤ 512 then 12 else if L ≤ 1024 then 16 else 20
def cz_k2 (L : Nat) : Nat := if L ≤ 1024 then 7 * (2 * L - 128) else 23940
/-- nothing of the class lies behind the next address -/
def cz_Fr (G : cz_G) (z : Nat × Nat) : Prop := (∀ a, z.1 ≤ a → G.cd a = 0) ∧ cz_len G.len
/-- the ghost after LOTS have been made -/
def cz_X (G : cz_G) (f : Nat → az_C) (z : Nat × Nat) (G' : cz_G) (f' : Nat → az_C) (z' : Nat × Nat) : Prop :=
  (∀ c, c < 6 ∨ 9 < c → G'.ad c = G.ad c) ∧ G'.tb = G.tb ∧ G'.ts = G.ts ∧ G.len ≤ G'.len ∧ (∀ a, a < z.1 → G.cd a = 0 → G'.cd a = 0 ∧ f' a = f a) ∧ (∀ b, cz_B G b → cz_B G' b) ∧ (∀ s, cz_S G s → cz_S G' s) ∧ z.1 ≤ z'.1 ∧ cz_Fr G' z' ∧ z'.1 + cz_k1 G.len = z.1 + cz_k1 G'.len ∧ z'.2 + cz_k2 G.len = z.2 + cz_k2 G'.len
theorem cz_X_rfl {G : cz_G} {f : Nat → az_C} {z : Nat × Nat} (h : cz_Fr G z) : cz_X G f z G f z := ⟨fun _ _ => rfl, rfl, rfl, Nat.le_refl _, fun _ _ h => ⟨h, rfl⟩, fun _ h => h, fun _ h => h, Nat.le_refl _, h, rfl, rfl⟩
theorem cz_X_tr {G G1 G2 : cz_G} {f f1 f2 : Nat → az_C} {z z1 z2 : Nat × Nat} (h : cz_X G f z G1 f1 z1) (h' : cz_X G1 f1 z1 G2 f2 z2) : cz_X G f z G2 f2 z2 := by
  obtain ⟨a1, a2, a3, a4, a5, a6, a7, a8, a9, a10, a11⟩ := h
  obtain ⟨b1, b2, b3, b4, b5, b6, b7, b8, b9, b10, b11⟩ := h'
  refine ⟨fun c hc => (b1 c hc).trans (a1 c hc), b2.trans a2, b3.trans a3, by omega, fun a ha hc => ?_, fun b hb => b6 b (a6 b hb), fun s hs => b7 s (a7 s hs), by omega, b9, by omega, by omega⟩
  obtain ⟨q1, q2⟩ := a5 a ha hc
  obtain ⟨q3, q4⟩ := b5 a (by omega) q1
  exact ⟨q3, q4.trans q2⟩
theorem cz_X_ab {G G1 : cz_G} {f f1 : Nat → az_C} {z z1 : Nat × Nat} (h : cz_X G f z G1 f1 z1) (b : Int) : cz_ab G b = cz_ab G1 b := (h.1 _ (by omega)).symm
theorem cz_X_as {G G1 : cz_G} {f f1 : Nat → az_C} {z z1 : Nat × Nat} (h : cz_X G f z G1 f1 z1) (s : Int) (j : Nat) : cz_as G s j = cz_as G1 s j := (h.1 _ (by omega)).symm
theorem cz_X_ad {G G1 : cz_G} {f f1 : Nat → az_C} {z z1 : Nat × Nat} (h : cz_X G f z G1 f1 z1) (c : Nat) (hc : c < 6 ∨ 9 < c) : G.ad c = G1.ad c := (h.1 c hc).symm
def cz_gcd (G : cz_G) (z1 : Nat) : Nat → Nat := fun a => if a = z1 then 6 else if a = z1 + 1 then 7 else if a = z1 + 2 then 8 else if a = z1 + 3 then 9 else if 6 ≤ G.cd a ∧ G.cd a ≤ 9 then 0 else G.cd a
def cz_gad (G : cz_G) (z1 : Nat) : Nat → Nat := fun c => if c = 6 then z1 else if c = 7 then z1 + 1 else if c = 8 then z1 + 2 else if c = 9 then z1 + 3 else G.ad c
theorem cz_g_o {G : cz_G} {z1 c : Nat} (hz : ∀ a, z1 ≤ a → G.cd a = 0) (h0 : c ≠ 0) (hc : c < 6 ∨ 9 < c) (h1 : G.cd (G.ad c) = c) (h2 : ∀ a, G.cd a = c → a = G.ad c) : cz_gcd G z1 (cz_gad G z1 c) = c ∧ ∀ a, cz_gcd G z1 a = c → a = cz_gad G z1 c := by
  have e : cz_gad G z1 c = G.ad c := by
    unfold cz_gad
    rw [if_neg (by omega), if_neg (by omega), if_neg (by omega), if_neg (by omega)]
  rw [e]
  have hlt : ¬ z1 ≤ G.ad c := fun q => h0 (by rw [← h1]; exact hz _ q)
  constructor
  · unfold cz_gcd
    rw [if_neg (by omega), if_neg (by omega), if_neg (by omega), if_neg (by omega), h1, if_neg (by omega)]
  · intro a
    unfold cz_gcd
    intro q
    split at q
    · omega
    · split at q
      · omega
      · split at q
        · omega
        · split at q
          · omega
          · split at q
            · omega
            · exact h2 a q
theorem cz_g_n {G : cz_G} {z1 c : Nat} (hc : 6 ≤ c ∧ c ≤ 9) : cz_gcd G z1 (cz_gad G z1 c) = c ∧ ∀ a, cz_gcd G z1 a = c → a = cz_gad G z1 c := by
  rcases (show c = 6 ∨ c = 7 ∨ c = 8 ∨ c = 9 by omega) with rfl | rfl | rfl | rfl <;> unfold cz_gcd cz_gad <;> grind
def cz_grow (G : cz_G) (z1 L : Nat) (hz : ∀ a, z1 ≤ a → G.cd a = 0) : cz_G := ⟨cz_gcd G z1, cz_gad G z1, L, G.tb, G.ts, fun c h1 h2 => by
    by_cases q : 6 ≤ c ∧ c ≤ 9
    · exact cz_g_n q
    · exact cz_g_o hz (by omega) (by omega) (G.hF c h1 h2).1 (G.hF c h1 h2).2⟩
theorem cz_c_G {G G' : cz_G} {S : az_M} (h : ∀ c, c < 6 ∨ 9 < c → G'.ad c = G.ad c) (h2 : G'.tb = G.tb) (h3 : G'.ts = G.ts) (c : Nat) (hc : c < 5 ∨ 9 < c) : cz_c G' S c = cz_c G S c := by
  have e1 : cz_bo G' = cz_bo G := by
    funext i
    unfold cz_bo cz_ab
    rw [h2, h _ (by omega)]
  have e2 : cz_so G' = cz_so G := by
    funext i
    unfold cz_so cz_as
    rw [h3, h _ (by omega)]
  unfold cz_c
  split
  · unfold cz_cF
    split <;> first | rfl | omega | (rw [e1]) | (rw [e2]) | (unfold cz_f1; rw [h 2 (by decide), h 5 (by decide), h 10 (by decide), h 13 (by decide), h 17 (by decide), h 19 (by decide)]) | (unfold cz_f2; rw [h 3 (by decide), h 4 (by decide)]) | (unfold cz_f10; rw [h 11 (by decide), h 12 (by decide)]) | (unfold cz_f13; rw [h 14 (by decide), h 15 (by decide), h 16 (by decide)]) | (unfold cz_f17; rw [h 2 (by decide), h 5 (by decide), h 10 (by decide), h 13 (by decide), h 18 (by decide)]) | (unfold cz_f18; rw [h 5 (by decide), h 10 (by decide)]) | (unfold cz_f19; rw [h 20 (by decide), h 21 (by decide), h 22 (by decide)])
  · split
    · unfold cz_fB cz_aq
      rw [h _ (by omega)]
    · split
      · rfl
      · unfold cz_cS
        split <;> first | rfl | (unfold cz_fS cz_as; rw [h _ (by omega), h _ (by omega), h _ (by omega), h _ (by omega), h _ (by omega), h _ (by omega)]) | (unfold cz_fL cz_as; rw [h _ (by omega)])
theorem cz_cpy {S : az_M} {k n L : Nat} (hn : n ≤ L) (h0 : ∀ i, (n : Int) ≤ i → i < L → S k i = 0) : az_cpy 0 0 n (cz_gr S k n 0) (fun _ => 0) = cz_gr S k L 0 := by
  funext i
  unfold az_cpy cz_gr
  by_cases c : 0 ≤ i ∧ i < 0 + (n : Int)
  · rw [if_pos c, if_pos (by omega), if_pos (by omega), show (0 : Int) + (0 + (i - 0)) = 0 + i by omega]
  · rw [if_neg c]
    split
    · rw [h0 (0 + i) (by omega) (by omega)]
      rfl
    · rfl
section CmCI
variable {n : Nat} {G : cz_G} {S : az_M} {f : Nat → az_C} {z : Nat × Nat}
/-- the rows of LOTS are 0 where no LOT is -/
def iv_zl (S : az_M) : Prop := ∀ i, S 33 0 ≤ i → S 34 i = 0 ∧ S 35 i = 0 ∧ S 36 i = 0 ∧ S 37 (4 * i) = 0 ∧ S 37 (4 * i + 1) = 0 ∧ S 37 (4 * i + 2) = 0 ∧ S 37 (4 * i + 3) = 0
theorem iv_zl_37 (h : iv_zl S) {i : Int} (hi : 4 * S 33 0 ≤ i) : S 37 i = 0 := by
  have q := h (i / 4) (by omega)
  rcases (show i = 4 * (i / 4) ∨ i = 4 * (i / 4) + 1 ∨ i = 4 * (i / 4) + 2 ∨ i = 4 * (i / 4) + 3 by omega) with e | e | e | e <;> rw [e] <;> omega
def cz_gL (L : Nat) : Nat := if 2 * L < 1500 then 2 * L else 1500
set_option maxRecDepth 20000 in
set_option maxHeartbeats 1000000 in
theorem cm_lenY (hz : cz_Fr G z) (h33 : S 33 0 = (G.len : Int)) (hL : (G.len : Int) < 1500) (hs : iv_zl S) (hz1 : ∀ a, z.1 ≤ a → G.cd a = 0) : az_ex az_T (n + 2) 49 [.ref (G.ad 5)] (cz_H G S f, z) none (cz_H (cz_grow G z.1 (cz_gL G.len) hz1) S (cz_H G S f), z.1 + 4, z.2 + 7 * cz_gL G.len) := by
  refine az_ex_eq (R := az_r49) rfl (Nat.le_of_ble_eq_true rfl) ?_
  show az_p49 _ _ _
  have hc := hz.2
  unfold cz_len at hc
  have c0 : S 33 0 ≤ S 33 0 := Int.le_refl _
  have c5 : ∀ c, 1 ≤ c → c < 23 → ∀ j, G.ad c ≠ z.1 + j := fun c h1 h2 j q => by
    have q1 := (G.hF c h1 h2).1
    rw [q, hz1 _ (by omega)] at q1
    omega
  have c6 : ∀ c d, 1 ≤ c → c < 23 → 1 ≤ d → d < 23 → c ≠ d → G.ad c ≠ G.ad d := fun c d h1 h2 h3 h4 h5 q => by
    have q1 := (G.hF c h1 h2).1
    rw [q, (G.hF d h3 h4).1] at q1
    exact h5 q1.symm
  have eL : ∀ (K : az_L → Prop), K (az_s1 (az_arg 0 [.ref (G.ad 5)]) 1 (.int (Int32.ofInt (cz_gL G.len)))) → K (az_s1 (az_arg 0 [.ref (G.ad 5)]) 1 (.int (if decide (Int32.ofInt (2 * (G.len : Int)) < Int32.ofInt 1500) = true then Int32.ofInt (2 * (G.len : Int)) else Int32.ofInt 1500))) := by
    intro K hK
    have e : (if decide (Int32.ofInt (2 * (G.len : Int)) < Int32.ofInt 1500) = true then Int32.ofInt (2 * (G.len : Int)) else Int32.ofInt 1500) = Int32.ofInt (cz_gL G.len) := by
      have q := az_lt (x := 2 * (G.len : Int)) (y := 1500) (by omega) (by omega) (by omega) (by omega)
      unfold cz_gL
      by_cases c : 2 * G.len < 1500
      · rw [if_pos c, if_pos (decide_eq_true (q.mpr (by omega)))]
        rfl
      · rw [if_neg c, if_neg (fun h => by have := q.mp (of_decide_eq_true h); omega)]
        rfl
    rw [e]
    exact hK
  have hLL : G.len < cz_gL G.len ∧ cz_gL G.len ≤ 1500 := by
    unfold cz_gL
    split <;> omega
  have hl1 : ∀ K, az_mn (cz_H G S f (G.ad 6)) K = K (Int32.ofInt (S 33 0)) := fun K => by
    rw [h33, cz_F6_n, Int.one_mul]
  have em : 2 * S 33 0 = 2 * (G.len : Int) := by rw [h33]
  have hr : -2147483648 ≤ S 33 0 ∧ S 33 0 < 2147483648 := by omega
  simp only [az_s49_0, az_s49_1, az_s49_4, az_s49_5, az_s49_8, az_s49_9, az_s49_12, az_s49_13, az_s49_16, az_s49_17, az_s49_18, az_s49_21, az_s49_22, az_s49_23, az_s49_26, az_s49_28, az_s49_29, az_s49_32, az_s49_33, az_s49_36, az_s49_39, az_s49_40, az_s49_41, az_s49_44, az_s49_45, az_s49_48, az_s49_51, az_s49_52, az_s49_53, az_s49_56, az_s49_57, az_s49_60, az_s49_63, az_s49_64, az_s49_65, az_s49_68, az_s49_69, az_s49_70, az_s49_71, az_s49_74, az_s49_77, Int.reduceEq, Int.reduceLT, Int.reduceLE, Int.reduceAdd, Int.reduceMul, Int.reduceSub, Int.reduceNeg, Int.add_zero, Int.zero_add, ge_iff_le, gt_iff_lt, az_mi_s, az_ml_s, az_ma_r, az_ma_n, az_s1_ap, az_s2_ap, az_nl_i, az_nl_r, az_nl_0, az_nl_e, az_nl_l, az_arg_ap, az_arg_e, Value.category, Option.toList, List.cons_append, List.nil_append, az_cat, reduceIte, Nat.reduceAdd, Nat.reduceEqDiff, Nat.reduceLeDiff, Nat.reduceSub, Nat.reduceLT, true_and, and_true, false_and, and_false, not_true_eq_false, not_false_eq_true, implies_true, true_implies, false_implies, and_self, eq_self, if_true, if_false, true_or, or_true, or_false, false_or, Nat.zero_add, Nat.add_zero, Nat.succ_ne_self, Nat.reduceBneDiff, cz_F5_f0, cz_F5_f1, hl1]
  refine ⟨fun _ => ?_, fun q => absurd (Int32.le_refl _) q⟩
  simp only [az_mul, em, az_s49_13, az_s49_16, az_s49_17, az_s49_18, az_s49_21, az_s49_22, az_s49_23, az_s49_26, Int.reduceEq, Int.reduceLT, Int.reduceLE, Int.reduceAdd, Int.reduceMul, Int.reduceSub, Int.reduceNeg, Int.add_zero, Int.zero_add, ge_iff_le, gt_iff_lt, az_mi_s, az_ml_s, az_ma_r, az_ma_n, az_s1_ap, az_s2_ap, az_nl_i, az_nl_r, az_nl_0, az_nl_e, az_nl_l, az_arg_ap, az_arg_e, Value.category, Option.toList, List.cons_append, List.nil_append, az_cat, reduceIte, Nat.reduceAdd, Nat.reduceEqDiff, Nat.reduceLeDiff, Nat.reduceSub, Nat.reduceLT, true_and, and_true, false_and, and_false, not_true_eq_false, not_false_eq_true, implies_true, true_implies, false_implies, and_self, eq_self, if_true, if_false, true_or, or_true, or_false, false_or, Nat.zero_add, Nat.add_zero, Nat.succ_ne_self, Nat.reduceBneDiff, cz_F5_f0, cz_F5_f1, hl1]
  try simp only [az_mul, em]
  refine eL (fun lv => az_p49 _ _ (27, lv, [], (cz_H G S f, z))) ?_
  generalize hLg : cz_gL G.len = L at hLL ⊢
  generalize hlv : az_s1 (az_arg 0 [.ref (G.ad 5)]) 1 (.int (Int32.ofInt L)) = lv
  have l0 : lv 0 = some (.ref (G.ad 5)) := by rw [← hlv]; rfl
  have l1 : lv 1 = some (.int (Int32.ofInt L)) := by rw [← hlv]; rfl
  refine lp_len6 (cz_H G S f, z) (G.ad 5) (G.ad 6) (1 * G.len) L (Int32.ofInt (S 33 0)) (.ref (G.ad 7)) (.ref (G.ad 8)) (.ref (G.ad 9)) (cz_gr S 34 (1 * G.len) 0) cz_F5_at cz_F6_at (c5 5 (by decide) (by decide) 0) (c5 6 (by decide) (by decide) 0) (by omega) hLL.2 lv l0 l1 ?_
  refine lp_len7 _ (G.ad 5) (G.ad 7) (1 * G.len) L (Int32.ofInt (S 33 0)) (.ref z.1) (.ref (G.ad 8)) (.ref (G.ad 9)) (cz_gr S 35 (1 * G.len) 0) va_eq ?_ (c5 5 (by decide) (by decide) 1) (c5 7 (by decide) (by decide) 1) (by omega) hLL.2 lv l0 l1 ?_
  · dsimp only
    rw [va_ne (c6 7 5 (by decide) (by decide) (by decide) (by decide) (by decide)), va_ne (show G.ad 7 ≠ z.1 from c5 7 (by decide) (by decide) 0)]
    exact cz_F7_at
  refine lp_len8 _ (G.ad 5) (G.ad 8) (1 * G.len) L (Int32.ofInt (S 33 0)) (.ref z.1) (.ref (z.1 + 1)) (.ref (G.ad 9)) (cz_gr S 36 (1 * G.len) 0) va_eq ?_ (c5 5 (by decide) (by decide) 2) (c5 8 (by decide) (by decide) 2) (by omega) hLL.2 lv l0 l1 ?_
  · dsimp only
    rw [va_ne (c6 8 5 (by decide) (by decide) (by decide) (by decide) (by decide)), va_ne (c5 8 (by decide) (by decide) 1), va_ne (c6 8 5 (by decide) (by decide) (by decide) (by decide) (by decide)), va_ne (show G.ad 8 ≠ z.1 from c5 8 (by decide) (by decide) 0)]
    exact cz_F8_at
  refine lp_len9 _ (G.ad 5) (G.ad 9) (4 * G.len) L (Int32.ofInt (S 33 0)) (.ref z.1) (.ref (z.1 + 1)) (.ref (z.1 + 2)) (cz_gr S 37 (4 * G.len) 0) va_eq ?_ (c5 5 (by decide) (by decide) 3) (c5 9 (by decide) (by decide) 3) (by omega) hLL.2 lv l0 l1 ?_
  · dsimp only
    rw [va_ne (c6 9 5 (by decide) (by decide) (by decide) (by decide) (by decide)), va_ne (c5 9 (by decide) (by decide) 2), va_ne (c6 9 5 (by decide) (by decide) (by decide) (by decide) (by decide)), va_ne (c5 9 (by decide) (by decide) 1), va_ne (c6 9 5 (by decide) (by decide) (by decide) (by decide) (by decide)), va_ne (show G.ad 9 ≠ z.1 from c5 9 (by decide) (by decide) 0)]
    exact cz_F9_at
  refine az_s49_77.mpr ⟨rfl, ?_⟩
  refine Prod.ext ?_ (Prod.ext rfl ?_)
  · dsimp only
    rw [cz_cpy (k := 34) (L := 1 * L) (by omega) (fun i h1 h2 => (hs i (by omega)).1), cz_cpy (k := 35) (L := 1 * L) (by omega) (fun i h1 h2 => (hs i (by omega)).2.1), cz_cpy (k := 36) (L := 1 * L) (by omega) (fun i h1 h2 => (hs i (by omega)).2.2.1), cz_cpy (k := 37) (L := 4 * L) (by omega) (fun i h1 h2 => iv_zl_37 hs (by omega))]
    funext a
    unfold va_up
    show _ = if cz_gcd G z.1 a = 0 then cz_H G S f a else cz_c (cz_grow G z.1 L hz1) S (cz_gcd G z.1 a)
    have n5 := c5 5 (by decide) (by decide)
    by_cases e5 : a = G.ad 5
    · have g5 := (cz_g_o hz1 (c := 5) (by decide) (by decide) (G.hF 5 (by decide) (by decide)).1 (G.hF 5 (by decide) (by decide)).2).1
      have g6 : cz_gad G z.1 5 = G.ad 5 := rfl
      rw [g6] at g5
      rw [if_pos e5, e5, g5, if_neg (by decide)]
      rfl
    · rw [if_neg e5, if_neg e5, if_neg e5, if_neg e5]
      by_cases e0 : a = z.1
      · rw [if_neg (by omega), if_neg (by omega), if_neg (by omega), if_pos e0]
        have : cz_gcd G z.1 a = 6 := by unfold cz_gcd; rw [if_pos e0]
        rw [this, if_neg (by decide)]
        show az_ia 0 L _ = az_ia 0 (1 * L) (cz_gr S 34 (1 * L) 0)
        rw [Nat.one_mul]
      · by_cases e1 : a = z.1 + 1
        · rw [if_neg (by omega), if_neg (by omega), if_pos e1]
          have : cz_gcd G z.1 a = 7 := by unfold cz_gcd; rw [if_neg e0, if_pos e1]
          rw [this, if_neg (by decide)]
          show az_ia 0 L _ = az_ia 0 (1 * L) (cz_gr S 35 (1 * L) 0)
          rw [Nat.one_mul]
        · by_cases e2 : a = z.1 + 2
          · rw [if_neg (by omega), if_pos e2]
            have : cz_gcd G z.1 a = 8 := by unfold cz_gcd; rw [if_neg e0, if_neg e1, if_pos e2]
            rw [this, if_neg (by decide)]
            show az_ia 0 L _ = az_ia 0 (1 * L) (cz_gr S 36 (1 * L) 0)
            rw [Nat.one_mul]
          · by_cases e3 : a = z.1 + 3
            · rw [if_pos e3]
              have : cz_gcd G z.1 a = 9 := by unfold cz_gcd; rw [if_neg e0, if_neg e1, if_neg e2, if_pos e3]
              rw [this, if_neg (by decide)]
              rfl
            · rw [if_neg (by omega), if_neg (by omega), if_neg (by omega), if_neg (by omega)]
              have eg : cz_gcd G z.1 a = if 6 ≤ G.cd a ∧ G.cd a ≤ 9 then 0 else G.cd a := by unfold cz_gcd; rw [if_neg e0, if_neg e1, if_neg e2, if_neg e3]
              rw [eg]
              by_cases e6 : 6 ≤ G.cd a ∧ G.cd a ≤ 9
              · rw [if_pos e6, if_pos rfl]
              · rw [if_neg e6]
                by_cases e7 : G.cd a = 0
                · rw [if_pos e7]
                · rw [if_neg e7]
                  unfold cz_H
                  rw [if_neg e7]
                  have e8 : G.cd a ≠ 5 := fun q => e5 ((G.hF 5 (by decide) (by decide)).2 a q)
                  refine (cz_c_G (G := G) (G' := cz_grow G z.1 L hz1) (fun c hc => ?_) rfl rfl _ (by omega)).symm
                  show cz_gad G z.1 c = G.ad c
                  unfold cz_gad
                  rw [if_neg (by omega), if_neg (by omega), if_neg (by omega), if_neg (by omega)]
  · show z.2 + L + L + L + 4 * L = z.2 + 7 * L
    omega
set_option maxRecDepth 20000 in
set_option maxHeartbeats 1000000 in
theorem cm_lenN (h33 : 0 ≤ S 33 0 ∧ S 33 0 < (G.len : Int)) (hL : (G.len : Int) ≤ 1500) : az_ex az_T (n + 2) 49 [.ref (G.ad 5)] (cz_H G S f, z) none (cz_H G S f, z) := by
  refine az_ex_eq (R := az_r49) rfl (Nat.le_of_ble_eq_true rfl) ?_
  show az_p49 _ _ _
  have c : ¬ 1 * (G.len : Int) ≤ S 33 0 := by omega
  repeat (first | simp only [az_s49_0, az_s49_1, az_s49_4, az_s49_5, az_s49_8, az_s49_9, az_s49_12, az_s49_16, az_s49_17, az_s49_18, az_s49_21, az_s49_22, az_s49_23, az_s49_26, az_s49_27, az_s49_28, az_s49_29, az_s49_32, az_s49_33, az_s49_36, az_s49_39, az_s49_40, az_s49_41, az_s49_44, az_s49_45, az_s49_48, az_s49_51, az_s49_52, az_s49_53, az_s49_56, az_s49_57, az_s49_60, az_s49_63, az_s49_64, az_s49_65, az_s49_68, az_s49_69, az_s49_70, az_s49_71, az_s49_74, az_s49_77, Int.reduceEq, Int.reduceLT, Int.reduceLE, Int.reduceAdd, Int.reduceMul, Int.reduceSub, Int.reduceNeg, Int.add_zero, Int.zero_add, ge_iff_le, gt_iff_lt, az_mi_s, az_ml_s, az_ma_r, az_ma_n, az_s1_ap, az_s2_ap, az_nl_i, az_nl_r, az_nl_0, az_nl_e, az_nl_l, az_arg_ap, az_arg_e, Value.category, Option.toList, List.cons_append, List.nil_append, az_cat, reduceIte, Nat.reduceAdd, Nat.reduceEqDiff, Nat.reduceLeDiff, Nat.reduceSub, Nat.reduceLT, true_and, and_true, false_and, and_false, not_true_eq_false, not_false_eq_true, implies_true, true_implies, false_implies, and_self, eq_self, if_true, if_false, true_or, or_true, or_false, false_or, Nat.zero_add, Nat.add_zero, Nat.succ_ne_self, Nat.reduceBneDiff, cz_F1_is, cz_F1_f0, cz_F1_f1, cz_F1_f2, cz_F1_f3, cz_F1_f4, cz_F1_f5, cz_F1_f6, cz_F1_f7, cz_F2_is, cz_F2_f0, cz_F2_f1, cz_F2_f2, cz_F5_is, cz_F5_f0, cz_F5_f1, cz_F5_f2, cz_F5_f3, cz_F5_f4, cz_F10_is, cz_F10_f0, cz_F10_f1, cz_F10_f2, cz_F10_f3, cz_F10_f4, cz_F10_f5, cz_F10_f6, cz_F10_f7, cz_F13_is, cz_F13_f0, cz_F13_f1, cz_F13_f2, cz_F13_f3, cz_F13_f4, cz_F17_is, cz_F17_f0, cz_F17_f1, cz_F17_f2, cz_F17_f3, cz_F17_f4, cz_F17_f5, cz_F18_is, cz_F18_f0, cz_F18_f1, cz_F19_is, cz_F19_f0, cz_F19_f1, cz_F19_f2, cz_F19_f3, cz_F11_n, cz_F11_r, cz_F11_w, cz_F14_n, cz_F14_r, cz_F14_w, cz_F15_n, cz_F15_r, cz_F15_w, cz_F16_n, cz_F16_r, cz_F16_w, cz_F20_n, cz_F20_r, cz_F20_w, cz_F21_n, cz_F21_r, cz_F21_w, cz_F22_n, cz_F22_r, cz_F22_w, cz_F12_n, cz_F12_r, cz_F12_w, cz_F6_n, cz_F6_r, cz_F6_w, cz_F7_n, cz_F7_r, cz_F7_w, cz_F8_n, cz_F8_r, cz_F8_w, cz_F9_n, cz_F9_r, cz_F9_w, cz_F3_r, cz_F3_n, cz_F4_r, cz_F4_n, cz_F1_w6, cz_F1_u6, cz_F1_w7, cz_F1_u7, cz_F2_w2, cz_F2_u2, cz_F5_w0, cz_F5_u0, cz_F10_w0, cz_F10_u0, cz_F10_w1, cz_F10_u1, cz_F10_w2, cz_F10_u2, cz_F10_w3, cz_F10_u3, cz_F10_w4, cz_F10_u4, cz_F10_w6, cz_F10_u6, cz_F13_w3, cz_F13_u3, cz_F13_w4, cz_F13_u4, cz_F17_w5, cz_F17_u5, cz_F19_w3, cz_F19_u3, cz_F11_u, cz_F14_u, cz_F15_u, cz_F16_u, cz_F20_u, cz_F21_u, cz_F22_u, cz_F12_u] | simp (disch := first | omega | (simp (disch := omega) only [az_up_ee, az_up_kn, az_up_en]; omega)) only [Int.reduceEq, Int.reduceLT, Int.reduceLE, Int.reduceAdd, Int.reduceMul, Int.reduceSub, Int.reduceNeg, Int.add_zero, Int.zero_add, ge_iff_le, gt_iff_lt, az_mi_s, az_ml_s, az_ma_r, az_ma_n, az_s1_ap, az_s2_ap, az_nl_i, az_nl_r, az_nl_0, az_nl_e, az_nl_l, az_arg_ap, az_arg_e, Value.category, Option.toList, List.cons_append, List.nil_append, az_cat, reduceIte, Nat.reduceAdd, Nat.reduceEqDiff, Nat.reduceLeDiff, Nat.reduceSub, Nat.reduceLT, true_and, and_true, false_and, and_false, not_true_eq_false, not_false_eq_true, implies_true, true_implies, false_implies, and_self, eq_self, if_true, if_false, true_or, or_true, or_false, false_or, Nat.zero_add, Nat.add_zero, Nat.succ_ne_self, Nat.reduceBneDiff, lc_gt, lc_le, lc_eq, lz_toInt, lz_add, lz_sub, lz_mul, lz_i2l, lz_l2i, lz_div, lz_eq, lz_eq0, lz_rv, az_add, az_sub, az_mul, az_toInt, az_le, az_lt, az_eq, az_le0, az_0le, az_lt0, az_0lt, az_eq0, az_eq1, az_up_ee, az_up_kn, az_up_en, az_rb0, az_rb1, az_rbi, az_rbx, az_rvI, az_bo, az_b01, az_bz, az_b0, az_b1, az_nn, cz_F6_u, cz_F7_u, cz_F8_u, cz_F9_u, c] | simp (config := {contextual := true}) (disch := first | omega | (simp (disch := omega) only [az_up_ee, az_up_kn, az_up_en]; omega)) only [Int.reduceEq, Int.reduceLT, Int.reduceLE, Int.reduceAdd, Int.reduceMul, Int.reduceSub, Int.reduceNeg, Int.add_zero, Int.zero_add, ge_iff_le, gt_iff_lt, az_mi_s, az_ml_s, az_ma_r, az_ma_n, az_s1_ap, az_s2_ap, az_nl_i, az_nl_r, az_nl_0, az_nl_e, az_nl_l, az_arg_ap, az_arg_e, Value.category, Option.toList, List.cons_append, List.nil_append, az_cat, reduceIte, Nat.reduceAdd, Nat.reduceEqDiff, Nat.reduceLeDiff, Nat.reduceSub, Nat.reduceLT, true_and, and_true, false_and, and_false, not_true_eq_false, not_false_eq_true, implies_true, true_implies, false_implies, and_self, eq_self, if_true, if_false, true_or, or_true, or_false, false_or, Nat.zero_add, Nat.add_zero, Nat.succ_ne_self, Nat.reduceBneDiff, lc_gt, lc_le, lc_eq, lz_toInt, lz_add, lz_sub, lz_mul, lz_i2l, lz_l2i, lz_div, lz_eq, lz_eq0, lz_rv, az_add, az_sub, az_mul, az_toInt, az_le, az_lt, az_eq, az_le0, az_0le, az_lt0, az_0lt, az_eq0, az_eq1, az_up_ee, az_up_kn, az_up_en, az_rb0, az_rb1, az_rbi, az_rbx, az_rvI, az_bo, az_b01, az_bz, az_b0, az_b1, az_nn, cz_F6_u, cz_F7_u, cz_F8_u, cz_F9_u, c])
theorem cx_lenN (h33 : 0 ≤ S 33 0 ∧ S 33 0 < (G.len : Int)) (hL : (G.len : Int) ≤ 1500) {K : List Value → az_H → Prop} : az_mc (az_ex az_T (n + 2)) 49 [.ref (G.ad 5)] (cz_H G S f, z) K = K [] (cz_H G S f, z) := az_mc_eq (cm_lenN h33 hL)
end CmCI
