-- deps: 30.mK 31.mL 32.mM 34.mN 37.mQ 38.mR 39.mS 43.cls 44.sta 44.stb 44.stc 44.std 45.cA 46.cB 47.cC 48.cD 49.cE 50.cF 54.cI 55.cJ 58.cM 59.cN 43.raw 51.cG 53.cH 56.cK 57.cL 52.cG2 60.cO 61.cP 62.cQ 64.iA 65.iB 66.iC 67.iD 68.iE 69.iF 70.iG 72.iI 75.iL 76.iM 34.mN2 34.mN3 35.mO 36.mP 33.mM2
section IvN
variable {S U Y : az_M} {loc loc' : Int → Int} {D D' F : Nat} {s : Int}
def su_wk (S : az_M) (s : Int) : az_M := su_mix (sp_we (sp_worked (sp_tt S s) s) s) (sq_we (sq_worked (sp_tt S s) s) s)
theorem su_wk_lo {k : Nat} {i : Int} (h : k < 55) : su_wk S s k i = sp_we (sp_worked (sp_tt S s) s) s k i := by
  unfold su_wk su_mix
  rw [if_pos h]
theorem su_wk_hi {k : Nat} {i : Int} (h : 55 ≤ k) : su_wk S s k i = sq_worked (sp_tt S s) s k i := by
  unfold su_wk su_mix sq_we
  rw [if_neg (by omega), az_up_kn (by omega), az_up_kn (by omega)]
theorem mx_ge {d : Int} : 1000 - d ≤ mx d ∧ 500 ≤ mx d := by
  unfold mx
  split <;> omega
/-- the first four kinds -/
theorem Inv.wkA (h : Inv S loc D F) (h0 : S 0 0 = 1) (h1 : 0 ≤ s) (h2 : s < 12) (c : S 7 s = 1) (m : S 18 s = 1) (m19 : S 19 s = 1) (hb : S 28 s < S 2 0) (hn : ∀ q, 0 ≤ q → q < S 38 0 → ¬ (S 39 q = s ∧ S 40 q = S 28 s + 1)) (hk : S 8 s = 0 ∨ S 8 s = 1 ∨ S 8 s = 3) : Inv (su_wk S s) loc D F := by
  have g2 := h.a.g2
  have en := h.p.en s h1 h2
  have la := h.l.la s h1 h2 c
  have st := h.l.st h0 s h1 h2 c
  obtain ⟨⟨f1, f2⟩, f3, f4, w23, w20, w108, w9, w91, w92, rm⟩ := (h.wk s h1 h2 c m).2
  have s22 := f3 (by omega)
  have lot := h.lot f1.1 f1.2 (by omega)
  have fl := h.z.lo _ f1.1 f1.2
  have kd := h.kind h0 s h1 h2 c
  have T : ∀ (k : Nat) (i : Int), k ≠ 19 ∧ k ≠ 28 → sp_tt S s k i = S k i := fun k i q => sp_tt_k q.1 q.2
  have t19 : ∀ i, sp_tt S s 19 i = if i = s then 0 else S 19 i := fun i => by rw [sp_tt_19, m19]; rfl
  have t28 := fun i => sp_tt_28 (S := S) (s := s) (i := i) (by omega)
  have iw : iv_l S (S 21 s) := fl
  rcases hk with k | k | k
  · -- clean
    have eR : sp_worked (sp_tt S s) s = sp_fin (sp_clean (sp_tt S s) s (S 21 s)) s (S 21 s) := by
      unfold sp_worked
      rw [T 8 _ (by decide), if_pos k, T 21 _ (by decide)]
    have eC : sq_worked (sp_tt S s) s = sp_clean (sp_tt S s) s (S 21 s) := by
      unfold sq_worked
      rw [T 8 _ (by decide), if_pos k, T 21 _ (by decide)]
    have yk : ∀ (k : Nat) (i : Int), k ≠ 51 → k ≠ 34 → sp_clean (sp_tt S s) s (S 21 s) k i = sp_tt S s k i := fun k i a b => sp_clean_k a b
    have y34 : sp_clean (sp_tt S s) s (S 21 s) 34 (S 21 s) = S 34 (S 21 s) - S 34 (S 21 s) * S 9 s / 1000 := by
      rw [sp_clean_34, T 34 _ (by decide), T 9 _ (by decide)]
    have a9 := kd.2.1 k
    have g1 : 1 ≤ S 34 (S 21 s) := fl.1
    have p1 : 0 ≤ S 34 (S 21 s) * S 9 s := Int.mul_nonneg (by omega) a9.1
    have p2 : S 34 (S 21 s) * S 9 s ≤ S 34 (S 21 s) * 900 := Int.mul_le_mul_of_nonneg_left a9.2 (by omega)
    have oo : sp_outsOf S s 1 = 1 := by
      unfold sp_outsOf
      rw [if_neg (by omega), if_neg (by omega), if_neg (by omega)]
    refine fin_work (Y := sp_clean (sp_tt S s) s (S 21 s)) h h0 h1 h2 c m hb hn (fun k i q => ?_) (fun i => ?_) (fun i => ?_) (fun x e => ?_) ?_ 0 ?_ (by omega) (fun k i q => ?_) (fun i => ?_) (fun k i q1 q2 => ?_) (fun x _ _ => rfl) f2 (fun w e9 p0 => iQ_one h h1 h2 c m s22 w (fun x _ _ => rfl) ?_)
    · rw [yk k i (by omega) (by omega), T k i (by omega)]
    · rw [yk 19 i (by decide) (by decide), t19]
    · rw [yk 28 i (by decide) (by decide), t28]
    · refine ⟨?_, ?_, ?_, fun j _ _ => ?_⟩
      · unfold sp_clean
        rw [az_up_en e, az_up_kn (by decide), T 34 _ (by decide)]
      · rw [yk 35 _ (by decide) (by decide), T 35 _ (by decide)]
      · rw [yk 36 _ (by decide) (by decide), T 36 _ (by decide)]
      · rw [yk 37 _ (by decide) (by decide), T 37 _ (by decide)]
    · unfold iv_l at iw ⊢
      rw [y34]
      simp (disch := decide) only [yk, T]
      exact ⟨by omega, iw.2⟩
    · rw [if_neg (by omega)]
    · rw [su_wk_lo q, eR]
    · rw [su_wk_hi (by decide), eC, yk 108 _ (by decide) (by decide), T 108 _ (by decide)]
      split
      · rename_i e; rw [e]; exact w108
      · rfl
    · rw [su_wk_hi q1, eC, yk k i (by omega) (by omega), T k i (by omega)]
    · rw [p0, Int.add_zero]
      unfold ps_l
      rw [if_neg (by omega), if_neg (by omega), e9.1, e9.2, y34, yk 36 _ (by decide) (by decide), T 36 _ (by decide)]
      exact mx_le (by omega) fl.2.2.1.1
  · -- temper
    have eR : sp_worked (sp_tt S s) s = sp_fin (sp_temper (sp_tt S s) s (S 21 s)) s (S 21 s) := by
      unfold sp_worked
      rw [T 8 _ (by decide), if_neg (by omega), if_pos k, T 21 _ (by decide)]
    have eC : sq_worked (sp_tt S s) s = sp_temper (sp_tt S s) s (S 21 s) := by
      unfold sq_worked
      rw [T 8 _ (by decide), if_neg (by omega), if_pos k, T 21 _ (by decide)]
    have yk : ∀ (k : Nat) (i : Int), k ≠ 49 → k ≠ 34 → k ≠ 36 → sp_temper (sp_tt S s) s (S 21 s) k i = sp_tt S s k i := fun k i a b c => sp_temper_k a b c
    have a9 := kd.2.2.1 k
    have etw : sp_tw (sp_tt S s) s (S 21 s) = sp_tw S s (S 21 s) := by
      unfold sp_tw
      rw [T 34 _ (by decide), T 9 _ (by decide), T 36 _ (by decide)]
    have y34 : ∀ x, sp_temper (sp_tt S s) s (S 21 s) 34 x = if S 9 s ≤ S 36 (S 21 s) then S 34 x else if x = S 21 s then S 34 (S 21 s) + sp_tw S s (S 21 s) else S 34 x := fun x => by
      unfold sp_temper
      rw [T 9 _ (by decide), T 36 _ (by decide), etw]
      split
      · exact T 34 _ (by decide)
      · rw [az_up_kn (by decide), az_up_at, az_up_kn (by decide), T 34 _ (by decide), T 34 _ (by decide)]
    have y36 : ∀ x, sp_temper (sp_tt S s) s (S 21 s) 36 x = if S 9 s ≤ S 36 (S 21 s) then S 36 x else if x = S 21 s then S 9 s else S 36 x := fun x => by
      unfold sp_temper
      rw [T 9 _ (by decide), T 36 _ (by decide)]
      split
      · exact T 36 _ (by decide)
      · rw [az_up_at, az_up_kn (by decide), az_up_kn (by decide), T 36 _ (by decide)]
    have oo : sp_outsOf S s 1 = 1 := by
      unfold sp_outsOf
      rw [if_neg (by omega), if_neg (by omega), if_neg (by omega)]
    refine fin_work (Y := sp_temper (sp_tt S s) s (S 21 s)) h h0 h1 h2 c m hb hn (fun k i q => ?_) (fun i => ?_) (fun i => ?_) (fun x e => ?_) ?_ 0 ?_ (by omega) (fun k i q => ?_) (fun i => ?_) (fun k i q1 q2 => ?_) (fun x _ _ => rfl) f2 (fun w e9 p0 => iQ_one h h1 h2 c m s22 w (fun x _ _ => rfl) ?_)
    · rw [yk k i (by omega) (by omega) (by omega), T k i (by omega)]
    · rw [yk 19 i (by decide) (by decide) (by decide), t19]
    · rw [yk 28 i (by decide) (by decide) (by decide), t28]
    · refine ⟨?_, ?_, ?_, fun j _ _ => ?_⟩
      · rw [y34, if_neg e]
        split <;> rfl
      · rw [yk 35 _ (by decide) (by decide) (by decide), T 35 _ (by decide)]
      · rw [y36, if_neg e]
        split <;> rfl
      · rw [yk 37 _ (by decide) (by decide) (by decide), T 37 _ (by decide)]
    · unfold iv_l at iw ⊢
      rw [y34, y36, if_pos rfl, if_pos rfl]
      simp (disch := decide) only [yk, T]
      by_cases d : S 9 s ≤ S 36 (S 21 s)
      · rw [if_pos d, if_pos d]; exact iw
      · have tb := sp_tw_b (S := S) (s := s) (l := S 21 s) (by have := lot.2.1; omega) a9 fl.2.2.1 d
        rw [if_neg d, if_neg d]
        exact ⟨by omega, iw.2.1, by omega, iw.2.2.2⟩
    · rw [if_neg (by omega)]
    · rw [su_wk_lo q, eR]
    · rw [su_wk_hi (by decide), eC, yk 108 _ (by decide) (by decide) (by decide), T 108 _ (by decide)]
      split
      · rename_i e; rw [e]; exact w108
      · rfl
    · rw [su_wk_hi q1, eC, yk k i (by omega) (by omega) (by omega), T k i (by omega)]
    · rw [p0, Int.add_zero]
      unfold ps_l
      rw [if_neg (by omega), if_neg (by omega), e9.1, e9.2, y34, y36, if_pos rfl, if_pos rfl]
      by_cases d : S 9 s ≤ S 36 (S 21 s)
      · rw [if_pos d, if_pos d]
        exact Int.le_refl _
      · rw [if_neg d, if_neg d]
        have m1 : mx (S 9 s) = 1000 - S 9 s := by unfold mx; split <;> omega
        have m2 : mx (S 36 (S 21 s)) = 1000 - S 36 (S 21 s) := by unfold mx; split <;> omega
        have tw : sp_tw S s (S 21 s) * (1000 - S 9 s) ≤ S 34 (S 21 s) * (S 9 s - S 36 (S 21 s)) := Int.ediv_mul_le _ (by omega)
        have q : S 34 (S 21 s) * (1000 - S 36 (S 21 s)) = S 34 (S 21 s) * (1000 - S 9 s) + S 34 (S 21 s) * (S 9 s - S 36 (S 21 s)) := by
          rw [← Int.mul_add]
          congr 1
          omega
        rw [m1, m2, Int.add_mul]
        omega
  · -- sift
    have eR : sp_worked (sp_tt S s) s = sp_fin (sp_tt S s) s (S 21 s) := by
      unfold sp_worked
      rw [T 8 _ (by decide), if_neg (by omega), if_neg (by omega), if_neg (by omega), if_pos k, T 21 _ (by decide)]
    have eC : sq_worked (sp_tt S s) s = az_up (sp_tt S s) 108 s (if S 9 s < S 35 (S 21 s) then 1 else 0) := by
      unfold sq_worked
      rw [T 8 _ (by decide), if_neg (by omega), if_neg (by omega), if_neg (by omega), if_pos k, T 21 _ (by decide), T 9 _ (by decide), T 35 _ (by decide)]
    have oo : sp_outsOf S s 1 = 2 := by
      unfold sp_outsOf
      rw [if_neg (by omega), if_neg (by omega), if_pos k]
    refine fin_work (Y := sp_tt S s) h h0 h1 h2 c m hb hn (fun k i q => T k i (by omega)) t19 t28 (fun x e => ?_) ?_ (if S 9 s < S 35 (S 21 s) then 1 else 0) ?_ (by split <;> omega) (fun k i q => ?_) (fun i => ?_) (fun k i q1 q2 => ?_) (fun x _ _ => rfl) f2 (fun w e9 p0 => iQ_one h h1 h2 c m s22 w (fun x _ _ => rfl) ?_)
    · exact ⟨T 34 _ (by decide), T 35 _ (by decide), T 36 _ (by decide), fun j _ _ => T 37 _ (by decide)⟩
    · unfold iv_l at iw ⊢
      simp (disch := decide) only [T]
      exact iw
    · rw [T 35 _ (by decide)]
      by_cases d : S 9 s < S 35 (S 21 s)
      · rw [if_pos d, if_pos ⟨k, d⟩]
      · rw [if_neg d, if_neg (fun q => d q.2)]
    · rw [su_wk_lo q, eR]
    · rw [su_wk_hi (by decide), eC, az_up_at, T 108 _ (by decide)]
    · rw [su_wk_hi q1, eC, az_up_kn q2, T k i (by omega)]
    · rw [p0, Int.add_zero]
      unfold ps_l
      rw [if_neg (by omega), if_neg (by omega), e9.1, e9.2, T 34 _ (by decide), T 36 _ (by decide)]
      exact Int.le_refl _
/-- the fifth: two lots become one -/
theorem sp_bsum_b {a b : Int} (ha : iv_l S a) (hb : iv_l S b) : sp_bsum S a b ≤ 1000000 := by
  unfold iv_l at ha hb
  have n : 0 < S 34 a + S 34 b := by omega
  have e : ∀ k, sp_bq S a b k * (S 34 a + S 34 b) ≤ S 37 (4 * a + k) * S 34 a + S 37 (4 * b + k) * S 34 b := fun k => Int.ediv_mul_le _ (by omega)
  have e0 := e 0
  have e1 := e 1
  have e2 := e 2
  have e3 := e 3
  rw [Int.add_zero, Int.add_zero] at e0
  have s1 : (S 37 (4 * a) + S 37 (4 * a + 1) + S 37 (4 * a + 2) + S 37 (4 * a + 3)) * S 34 a = 1000000 * S 34 a := by rw [ha.2.2.2.2]
  have s2 : (S 37 (4 * b) + S 37 (4 * b + 1) + S 37 (4 * b + 2) + S 37 (4 * b + 3)) * S 34 b = 1000000 * S 34 b := by rw [hb.2.2.2.2]
  have s3 : sp_bsum S a b * (S 34 a + S 34 b) ≤ 1000000 * (S 34 a + S 34 b) := by
    unfold sp_bsum
    simp only [Int.add_mul] at s1 s2 ⊢
    simp only [Int.add_mul, Int.mul_add] at e0 e1 e2 e3 ⊢
    omega
  exact Int.le_of_mul_le_mul_right s3 n
theorem sp_blend_37 {a b : Int} (hg : 1 ≤ S 34 a ∧ S 34 a < 2147483648) (hh : 1 ≤ S 34 b ∧ S 34 b < 2147483648) (ha : iv_l S a) (hb : iv_l S b) : (0 ≤ sp_blend S a b 37 (4 * a) ∧ 0 ≤ sp_blend S a b 37 (4 * a + 1) ∧ 0 ≤ sp_blend S a b 37 (4 * a + 2) ∧ 0 ≤ sp_blend S a b 37 (4 * a + 3)) ∧ sp_blend S a b 37 (4 * a) + sp_blend S a b 37 (4 * a + 1) + sp_blend S a b 37 (4 * a + 2) + sp_blend S a b 37 (4 * a + 3) = 1000000 := by
  have bs := sp_bsum_b ha hb
  have og : ∀ k, 0 ≤ k → k ≤ 3 → (0 ≤ S 37 (4 * a + k) ∧ S 37 (4 * a + k) ≤ 1000000) ∧ (0 ≤ S 37 (4 * b + k) ∧ S 37 (4 * b + k) ≤ 1000000) := fun k k1 k2 => by
    unfold iv_l at ha hb
    rcases (show k = 0 ∨ k = 1 ∨ k = 2 ∨ k = 3 by omega) with rfl | rfl | rfl | rfl
    · rw [Int.add_zero, Int.add_zero]; omega
    · omega
    · omega
    · omega
  have bq : ∀ k, 0 ≤ k → k ≤ 3 → 0 ≤ sp_bq S a b k := fun k k1 k2 => (sp_bq_b hg hh (og k k1 k2).1 (og k k1 k2).2).1
  have q0 := bq 0 (by decide) (by decide)
  have q1 := bq 1 (by decide) (by decide)
  have q2 := bq 2 (by decide) (by decide)
  have q3 := bq 3 (by decide) (by decide)
  have e : ∀ k, 0 ≤ k → k ≤ 3 → sp_blend S a b 37 (4 * a + k) = sp_bq S a b k + (if k = sp_b3 S a b then 1000000 - sp_bsum S a b else 0) := fun k k1 k2 => by
    unfold sp_blend
    rw [az_up_kn (by decide), az_up_kn (by decide), az_up_kn (by decide), az_up_at, sp_bl4_at ⟨k1, k2⟩]
    by_cases d : k = sp_b3 S a b
    · rw [if_pos (by omega), if_pos d, ← d]
    · rw [if_neg (by omega), if_neg d]
      omega
  have e0 := e 0 (by decide) (by decide)
  rw [Int.add_zero] at e0
  rw [e0, e 1 (by decide) (by decide), e 2 (by decide) (by decide), e 3 (by decide) (by decide)]
  have eb : sp_bsum S a b = sp_bq S a b 0 + sp_bq S a b 1 + sp_bq S a b 2 + sp_bq S a b 3 := rfl
  have b3 : sp_b3 S a b = 0 ∨ sp_b3 S a b = 1 ∨ sp_b3 S a b = 2 ∨ sp_b3 S a b = 3 := by
    unfold sp_b3 sp_b2 sp_b1
    repeat' split
    all_goals omega
  rcases b3 with d | d | d | d <;> rw [d] <;> simp <;> omega
theorem Inv.wkB (h : Inv S loc D F) (h0 : S 0 0 = 1) (h1 : 0 ≤ s) (h2 : s < 12) (c : S 7 s = 1) (m : S 18 s = 1) (m19 : S 19 s = 1) (hb : S 28 s < S 2 0) (hn : ∀ q, 0 ≤ q → q < S 38 0 → ¬ (S 39 q = s ∧ S 40 q = S 28 s + 1)) (k : S 8 s = 4) : Inv (su_wk S s) (lc loc (S 22 s) 0) (D + 1) F := by
  have g2 := h.a.g2
  have en := h.p.en s h1 h2
  have st := h.l.st h0 s h1 h2 c
  obtain ⟨⟨f1, f2⟩, f3, f4, w23, w20, w108, w9, w91, w92, rm⟩ := (h.wk s h1 h2 c m).2
  obtain ⟨t1, t2, t3⟩ := f4 k
  have lot := h.lot f1.1 f1.2 (by omega)
  have lot2 := h.lot t1.1 t1.2 (by omega)
  have fl := h.z.lo _ f1.1 f1.2
  have fl2 := h.z.lo _ t1.1 t1.2
  have T : ∀ (k : Nat) (i : Int), k ≠ 19 ∧ k ≠ 28 → sp_tt S s k i = S k i := fun k i q => sp_tt_k q.1 q.2
  have t19 : ∀ i, sp_tt S s 19 i = if i = s then 0 else S 19 i := fun i => by rw [sp_tt_19, m19]; rfl
  have t28 := fun i => sp_tt_28 (S := S) (s := s) (i := i) (by omega)
  have eR : sp_worked (sp_tt S s) s = sp_fin (sp_blend (sp_tt S s) (S 21 s) (S 22 s)) s (S 21 s) := by
    unfold sp_worked
    rw [T 8 _ (by decide), if_neg (by omega), if_neg (by omega), if_neg (by omega), if_neg (by omega), if_pos k, T 21 _ (by decide), T 22 _ (by decide)]
  have eC : sq_worked (sp_tt S s) s = az_up (sp_blend (sp_tt S s) (S 21 s) (S 22 s)) 22 s (-1) := by
    unfold sq_worked
    rw [T 8 _ (by decide), if_neg (by omega), if_neg (by omega), if_neg (by omega), if_neg (by omega), if_pos k, T 21 _ (by decide), T 22 _ (by decide)]
  have yk : ∀ (k : Nat) (i : Int), k ≠ 37 → k ≠ 35 → k ≠ 36 → k ≠ 34 → sp_blend (sp_tt S s) (S 21 s) (S 22 s) k i = sp_tt S s k i := fun k i a b c d => sp_blend_k a b c d
  have iT : ∀ x, iv_l S x → iv_l (sp_tt S s) x := fun x q => by
    unfold iv_l at q ⊢
    simp (disch := decide) only [T]
    exact q
  have oo : sp_outsOf S s 1 = 1 := by
    unfold sp_outsOf
    rw [if_neg (by omega), if_neg (by omega), if_neg (by omega)]
  have y34 : sp_blend (sp_tt S s) (S 21 s) (S 22 s) 34 (S 21 s) = S 34 (S 21 s) + S 34 (S 22 s) := by
    rw [sp_blend_34, T 34 _ (by decide), T 34 _ (by decide)]
  have n5 := sp_near_lot (S := S) (a := S 21 s) (b := S 22 s) (k := 35) (B := 9) fl.1 fl2.1 fl.2.1 fl2.2.1
  have n6 := sp_near_lot (S := S) (a := S 21 s) (b := S 22 s) (k := 36) (B := 999) fl.1 fl2.1 fl.2.2.1 fl2.2.2.1
  have y35 : sp_blend (sp_tt S s) (S 21 s) (S 22 s) 35 (S 21 s) = sp_near (S 35 (S 21 s) * S 34 (S 21 s) + S 35 (S 22 s) * S 34 (S 22 s)) (S 34 (S 21 s) + S 34 (S 22 s)) := by
    rw [sp_blend_35, T 34 _ (by decide), T 34 _ (by decide), T 35 _ (by decide), T 35 _ (by decide)]
  have y36 : sp_blend (sp_tt S s) (S 21 s) (S 22 s) 36 (S 21 s) = sp_near (S 36 (S 21 s) * S 34 (S 21 s) + S 36 (S 22 s) * S 34 (S 22 s)) (S 34 (S 21 s) + S 34 (S 22 s)) := by
    unfold sp_blend
    rw [az_up_kn (by decide), az_up_ee, T 34 _ (by decide), T 34 _ (by decide), T 36 _ (by decide), T 36 _ (by decide)]
  have b37 := sp_blend_37 (S := sp_tt S s) (a := S 21 s) (b := S 22 s) (by rw [T 34 _ (by decide)]; have := lot.2.1; omega) (by rw [T 34 _ (by decide)]; have := lot2.2.1; omega) (iT _ fl) (iT _ fl2)
  refine fin_work (Y := sp_blend (sp_tt S s) (S 21 s) (S 22 s)) h h0 h1 h2 c m hb hn (fun k i q => ?_) (fun i => ?_) (fun i => ?_) (fun x e => ?_) ?_ 0 ?_ (by omega) (fun k i q => ?_) (fun i => ?_) (fun k i q1 q2 => ?_) (fun x _ q => lc_n q) (by rw [lc_n t3]; exact f2) (fun w e9 p0 => iQ_two h h1 h2 c m (by omega) w (fun x _ q => lc_n q) ?_ lc_y)
  · rw [yk k i (by omega) (by omega) (by omega) (by omega), T k i (by omega)]
  · rw [yk 19 i (by decide) (by decide) (by decide) (by decide), t19]
  · rw [yk 28 i (by decide) (by decide) (by decide) (by decide), t28]
  · unfold sp_blend
    have b3 : sp_b3 (sp_tt S s) (S 21 s) (S 22 s) = 0 ∨ sp_b3 (sp_tt S s) (S 21 s) (S 22 s) = 1 ∨ sp_b3 (sp_tt S s) (S 21 s) (S 22 s) = 2 ∨ sp_b3 (sp_tt S s) (S 21 s) (S 22 s) = 3 := by
      unfold sp_b3 sp_b2 sp_b1
      repeat' split
      all_goals omega
    refine ⟨?_, ?_, ?_, fun j j1 j2 => ?_⟩
    · rw [az_up_en e, az_up_kn (by decide), az_up_kn (by decide), az_up_kn (by decide), sp_bl4_kn (by decide), T 34 _ (by decide)]
    · rw [az_up_kn (by decide), az_up_kn (by decide), az_up_en e, az_up_kn (by decide), sp_bl4_kn (by decide), T 35 _ (by decide)]
    · rw [az_up_kn (by decide), az_up_en e, az_up_kn (by decide), az_up_kn (by decide), sp_bl4_kn (by decide), T 36 _ (by decide)]
    · rw [az_up_kn (by decide), az_up_kn (by decide), az_up_kn (by decide), az_up_en (by omega)]
      unfold sp_bl4
      rw [az_up_en (by omega), az_up_en (by omega), az_up_en (by omega), az_up_en (by omega), T 37 _ (by decide)]
  · unfold iv_l
    rw [y34, y35, y36]
    exact ⟨by have := fl.1; have := fl2.1; omega, n5, n6, b37⟩
  · rw [if_neg (by omega)]
  · rw [su_wk_lo q, eR]
  · rw [su_wk_hi (by decide), eC, az_up_kn (by decide), yk 108 _ (by decide) (by decide) (by decide) (by decide), T 108 _ (by decide)]
    split
    · rename_i e; rw [e]; exact w108
    · rfl
  · rw [su_wk_hi q1, eC, az_up_kn (by omega), yk k i (by omega) (by omega) (by omega) (by omega), T k i (by omega)]
  · rw [p0, Int.add_zero]
    unfold ps_l
    rw [lc_n t3, if_neg (by omega), if_neg (by omega), if_neg (by omega), e9.1, e9.2, y34, y36]
    have g1 := fl.1
    have g1' := fl2.1
    have p1 : 0 ≤ S 36 (S 21 s) * S 34 (S 21 s) := Int.mul_nonneg fl.2.2.1.1 (by omega)
    have p2 : 0 ≤ S 36 (S 22 s) * S 34 (S 22 s) := Int.mul_nonneg fl2.2.2.1.1 (by omega)
    have p3 : S 36 (S 21 s) * S 34 (S 21 s) ≤ 999 * S 34 (S 21 s) := Int.mul_le_mul_of_nonneg_right fl.2.2.1.2 (by omega)
    have p4 : S 36 (S 22 s) * S 34 (S 22 s) ≤ 999 * S 34 (S 22 s) := Int.mul_le_mul_of_nonneg_right fl2.2.2.1.2 (by omega)
    have nb := sp_near_b (x := S 36 (S 21 s) * S 34 (S 21 s) + S 36 (S 22 s) * S 34 (S 22 s)) (d := S 34 (S 21 s) + S 34 (S 22 s)) (B := 999) (by omega) (by omega) (by omega)
    generalize sp_near (S 36 (S 21 s) * S 34 (S 21 s) + S 36 (S 22 s) * S 34 (S 22 s)) (S 34 (S 21 s) + S 34 (S 22 s)) = d at nb n6 y36
    have m1 := mx_ge (d := S 36 (S 21 s))
    have m2 := mx_ge (d := S 36 (S 22 s))
    have x1 : S 34 (S 21 s) * (1000 - S 36 (S 21 s)) ≤ S 34 (S 21 s) * mx (S 36 (S 21 s)) := Int.mul_le_mul_of_nonneg_left m1.1 (by omega)
    have x2 : S 34 (S 22 s) * (1000 - S 36 (S 22 s)) ≤ S 34 (S 22 s) * mx (S 36 (S 22 s)) := Int.mul_le_mul_of_nonneg_left m2.1 (by omega)
    have x3 : S 34 (S 21 s) * 500 ≤ S 34 (S 21 s) * mx (S 36 (S 21 s)) := Int.mul_le_mul_of_nonneg_left m1.2 (by omega)
    have x4 : S 34 (S 22 s) * 500 ≤ S 34 (S 22 s) * mx (S 36 (S 22 s)) := Int.mul_le_mul_of_nonneg_left m2.2 (by omega)
    rw [Int.mul_sub, Int.mul_comm (S 34 (S 21 s)) (S 36 (S 21 s))] at x1
    rw [Int.mul_sub, Int.mul_comm (S 34 (S 22 s)) (S 36 (S 22 s))] at x2
    by_cases e : d < 500
    · have em : mx d = 1000 - d := by unfold mx; rw [if_pos e]
      rw [em, Int.mul_sub, Int.mul_comm (S 34 (S 21 s) + S 34 (S 22 s)) d]
      omega
    · have em : mx d = 500 := by unfold mx; rw [if_neg e]
      rw [em]
      omega
end IvN
