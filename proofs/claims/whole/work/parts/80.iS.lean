-- deps: 30.mK 31.mL 32.mM 34.mN 37.mQ 38.mR 39.mS 43.cls 44.sta 44.stb 44.stc 44.std 45.cA 46.cB 47.cC 48.cD 49.cE 50.cF 54.cI 55.cJ 58.cM 59.cN 43.raw 51.cG 53.cH 56.cK 57.cL 52.cG2 60.cO 61.cP 62.cQ 64.iA 65.iB 66.iC 67.iD 68.iE 69.iF 70.iG 72.iI 75.iL 76.iM 77.iN 78.iO 79.iR 34.mN2 34.mN3 35.mO 36.mP 33.mM2
/-! ===== a working ends without a fault: both sides ===== -/
section IvS
variable {n r : Nat} {G : cz_G} {S U Y : az_M} {loc loc' : Int → Int} {D D' F : Nat} {s : Int} {f : Nat → az_C} {z : Nat × Nat}
theorem Inv.wkAll (h : Inv S loc D F) (h0 : S 0 0 = 1) (h1 : 0 ≤ s) (h2 : s < 12) (c : S 7 s = 1) (m : S 18 s = 1) (m19 : S 19 s = 1) (hb : S 28 s < S 2 0) (hn : ∀ q, 0 ≤ q → q < S 38 0 → ¬ (S 39 q = s ∧ S 40 q = S 28 s + 1)) : ∃ loc' D', Inv (su_wk S s) loc' D' F := by
  have la := (h.l.la s h1 h2 c).1
  rcases (show S 8 s = 0 ∨ S 8 s = 1 ∨ S 8 s = 2 ∨ S 8 s = 3 ∨ S 8 s = 4 ∨ S 8 s = 5 by omega) with k | k | k | k | k | k
  · exact ⟨_, _, h.wkA h0 h1 h2 c m m19 hb hn (Or.inl k)⟩
  · exact ⟨_, _, h.wkA h0 h1 h2 c m m19 hb hn (Or.inr (Or.inl k))⟩
  · exact ⟨_, _, h.wkR h0 h1 h2 c m m19 hb hn k⟩
  · exact ⟨_, _, h.wkA h0 h1 h2 c m m19 hb hn (Or.inr (Or.inr k))⟩
  · exact ⟨_, _, h.wkB h0 h1 h2 c m m19 hb hn k⟩
  · exact ⟨_, _, h.wkP h0 h1 h2 c m m19 hb hn k⟩
/-- what the class sees of the parts' bookkeeping -/
theorem fin_vis {Yc : az_M} {l : Int} (y23 : Y 23 s = 0) (y21 : Y 21 s = l) (hl : l ≠ -1) (y19 : Y 19 s = 0) (yc : ∀ k i, k < 55 → k ≠ 22 → Yc k i = Y k i) (yc22 : ∀ i, Yc 22 i = if i = s then -1 else Y 22 i) {k : Nat} {i : Int} (hk : k < 55) (n20 : k ≠ 20) (n23 : k ≠ 23) (n24 : k ≠ 24) (n25 : k ≠ 25) (n26 : k ≠ 26) : sp_we (sp_fin Y s l) s k i = sq_we Yc s k i := by
  have v23 : sp_fin Y s l 23 s = 1 := by
    unfold sp_fin
    rw [sp_part_23, if_pos rfl, az_up_kn (by decide), y23]
    rfl
  have c21 : Yc 21 s = l := by rw [yc 21 s (by decide) (by decide)]; exact y21
  unfold sp_we sq_we
  rw [v23, c21, if_neg hl]
  have fk : ∀ j, sp_fin Y s l k j = az_up Y 22 s (-1) k j := fun j => by
    unfold sp_fin
    exact sp_part_k n23 n24 n25 n26
  by_cases e18 : k = 18
  · subst e18
    rw [az_up_at, az_up_kn (by decide), az_up_kn (by decide), az_up_at, fk, az_up_kn (by decide), yc 18 _ (by decide) (by decide)]
    rfl
  · rw [az_up_kn e18, az_up_kn n20, fk]
    by_cases e19 : k = 19
    · subst e19
      rw [az_up_kn (by decide), az_up_at, az_up_kn (by decide), yc 19 _ (by decide) (by decide)]
      split
      · rename_i e; rw [e]; exact y19
      · rfl
    · rw [az_up_kn e19, az_up_kn e18]
      by_cases e22 : k = 22
      · subst e22
        rw [az_up_at, yc22]
      · rw [az_up_kn e22, yc k i hk e22]
theorem vis_n {k : Nat} {i : Int} (h : cz_ow k i ≠ 0) : k ≠ 7 ∧ k ≠ 20 ∧ k ≠ 23 ∧ k ≠ 24 ∧ k ≠ 25 ∧ k ≠ 26 ∧ k ≠ 42 ∧ k ≠ 54 := by
  refine ⟨?_, ?_, ?_, ?_, ?_, ?_, ?_, ?_⟩ <;> (intro e; subst e; exact h rfl)
theorem wk_vis (h : Inv S loc D F) (h0 : S 0 0 = 1) (h1 : 0 ≤ s) (h2 : s < 12) (c : S 7 s = 1) (m : S 18 s = 1) (m19 : S 19 s = 1) {k : Nat} {i : Int} (hv : cz_ow k i ≠ 0) : su_wk S s k i = sq_we (sq_worked (sp_tt S s) s) s k i := by
  by_cases a : k < 55
  · rw [su_wk_lo a]
    obtain ⟨n7, n20, n23, n24, n25, n26, n42, n54⟩ := vis_n hv
    obtain ⟨⟨f1, f2⟩, f3, f4, w23, w20, w108, w9, w91, w92, rm⟩ := (h.wk s h1 h2 c m).2
    have T : ∀ (k : Nat) (i : Int), k ≠ 19 ∧ k ≠ 28 → sp_tt S s k i = S k i := fun k i q => sp_tt_k q.1 q.2
    have t19 : sp_tt S s 19 s = 0 := by rw [sp_tt_19, if_pos rfl, m19]; rfl
    have nl : S 21 s ≠ -1 := by omega
    have la := (h.l.la s h1 h2 c).1
    unfold sp_worked sq_worked
    simp only [T 8 _ (by decide), T 21 _ (by decide), T 22 _ (by decide)]
    rcases (show S 8 s = 0 ∨ S 8 s = 1 ∨ S 8 s = 2 ∨ S 8 s = 3 ∨ S 8 s = 4 ∨ S 8 s = 5 by omega) with e | e | e | e | e | e
    · rw [if_pos e, if_pos e]
      have yk : ∀ (k : Nat) (i : Int), k ≠ 51 → k ≠ 34 → sp_clean (sp_tt S s) s (S 21 s) k i = sp_tt S s k i := fun k i a b => sp_clean_k a b
      refine fin_vis (by rw [yk 23 _ (by decide) (by decide), T 23 _ (by decide)]; exact w23) (by rw [yk 21 _ (by decide) (by decide), T 21 _ (by decide)]) nl (by rw [yk 19 _ (by decide) (by decide)]; exact t19) (fun _ _ _ _ => rfl) (fun j => ?_) a n20 n23 n24 n25 n26
      split
      · rename_i q; rw [q, yk 22 _ (by decide) (by decide), T 22 _ (by decide)]; exact f3 (by omega)
      · rfl
    · rw [if_neg (by omega), if_pos e, if_neg (by omega), if_pos e]
      have yk : ∀ (k : Nat) (i : Int), k ≠ 49 → k ≠ 34 → k ≠ 36 → sp_temper (sp_tt S s) s (S 21 s) k i = sp_tt S s k i := fun k i a b c => sp_temper_k a b c
      refine fin_vis (by rw [yk 23 _ (by decide) (by decide) (by decide), T 23 _ (by decide)]; exact w23) (by rw [yk 21 _ (by decide) (by decide) (by decide), T 21 _ (by decide)]) nl (by rw [yk 19 _ (by decide) (by decide) (by decide)]; exact t19) (fun _ _ _ _ => rfl) (fun j => ?_) a n20 n23 n24 n25 n26
      split
      · rename_i q; rw [q, yk 22 _ (by decide) (by decide) (by decide), T 22 _ (by decide)]; exact f3 (by omega)
      · rfl
    · rw [if_neg (by omega), if_neg (by omega), if_pos e, if_neg (by omega), if_neg (by omega), if_pos e]
      obtain ⟨W1, W2, W3, W4, W5⟩ := sp_roll_W (T := sp_tt S s) (s := s) (l := S 21 s) (by rw [T 23 _ (by decide)]; exact w23)
      have r23 : 0 < sp_roll (sp_tt S s) s (S 21 s) 23 s := by
        rw [W5.1]
        split <;> split <;> omega
      have q21 : sq_roll (sp_tt S s) s 21 s = S 21 s := by
        unfold sq_roll
        rw [az_up_kn (by decide)]
        split
        · rw [az_up_kn (by decide), az_up_kn (by decide), T 21 _ (by decide)]
        · rw [az_up_kn (by decide), T 21 _ (by decide)]
      have qk : ∀ (k : Nat) (i : Int), k < 55 → sq_roll (sp_tt S s) s k i = if k = 34 ∧ i = S 21 s then sp_rest (sp_tt S s) s (S 21 s) else sp_tt S s k i := fun k i a => by
        unfold sq_roll
        rw [T 21 _ (by decide)]
        have inn : (if sp_tt S s 13 s = 3 then az_up (az_up (sp_tt S s) 109 (3 * s + 1) (sp_pc (sp_tt S s) s (S 21 s) 1)) 109 (3 * s + 2) (sp_pc (sp_tt S s) s (S 21 s) 2) else az_up (sp_tt S s) 109 (3 * s + 1) (sp_pc (sp_tt S s) s (S 21 s) 1)) k i = sp_tt S s k i := by
          split
          · rw [az_up_kn (by omega), az_up_kn (by omega)]
          · rw [az_up_kn (by omega)]
        by_cases e1 : k = 34
        · subst e1
          rw [az_up_at, inn]
          by_cases e2 : i = S 21 s
          · rw [if_pos e2, if_pos ⟨rfl, e2⟩]
          · rw [if_neg e2, if_neg (fun q => e2 q.2)]
        · rw [az_up_kn e1, inn, if_neg (fun q => e1 q.1)]
      have qn : ∀ (k : Nat) (i : Int), k < 55 → k ≠ 34 → sq_roll (sp_tt S s) s k i = sp_tt S s k i := fun k i a b => by rw [qk k i a, if_neg (fun q => b q.1)]
      unfold sp_we sq_we
      rw [if_pos r23, if_pos r23, q21, if_neg nl]
      by_cases e18 : k = 18
      · subst e18
        rw [az_up_at, az_up_kn (by decide), az_up_kn (by decide), az_up_at, W1 18 i (by decide) (by decide) (by decide) (by decide) (by decide), qn 18 i (by decide) (by decide)]
      · rw [az_up_kn e18, az_up_kn n20]
        by_cases e19 : k = 19
        · subst e19
          rw [az_up_at, az_up_kn (by decide), qn 19 i (by decide) (by decide), W1 19 i (by decide) (by decide) (by decide) (by decide) (by decide)]
          split
          · rename_i q; rw [q]; exact t19
          · rfl
        · rw [az_up_kn e19, az_up_kn e18]
          by_cases e34 : k = 34
          · subst e34
            rw [W2, qk 34 i a]
            by_cases e2 : i = S 21 s
            · rw [if_pos e2, if_pos ⟨rfl, e2⟩]
            · rw [if_neg e2, if_neg (fun q => e2 q.2)]
          · rw [W1 k i n23 n24 n25 n26 e34, qn k i a e34]
    · rw [if_neg (by omega), if_neg (by omega), if_neg (by omega), if_pos e, if_neg (by omega), if_neg (by omega), if_neg (by omega), if_pos e]
      refine fin_vis (by rw [T 23 _ (by decide)]; exact w23) (by rw [T 21 _ (by decide)]) nl t19 (fun k i q _ => az_up_kn (by omega)) (fun j => ?_) a n20 n23 n24 n25 n26
      rw [az_up_kn (by decide)]
      split
      · rename_i q; rw [q, T 22 _ (by decide)]; exact f3 (by omega)
      · rfl
    · rw [if_neg (by omega), if_neg (by omega), if_neg (by omega), if_neg (by omega), if_pos e, if_neg (by omega), if_neg (by omega), if_neg (by omega), if_neg (by omega), if_pos e]
      have yk : ∀ (k : Nat) (i : Int), k ≠ 37 → k ≠ 35 → k ≠ 36 → k ≠ 34 → sp_blend (sp_tt S s) (S 21 s) (S 22 s) k i = sp_tt S s k i := fun k i a b c d => sp_blend_k a b c d
      refine fin_vis (by rw [yk 23 _ (by decide) (by decide) (by decide) (by decide), T 23 _ (by decide)]; exact w23) (by rw [yk 21 _ (by decide) (by decide) (by decide) (by decide), T 21 _ (by decide)]) nl (by rw [yk 19 _ (by decide) (by decide) (by decide) (by decide)]; exact t19) (fun k i _ q => az_up_kn q) (fun j => az_up_at) a n20 n23 n24 n25 n26
    · rw [if_neg (by omega), if_neg (by omega), if_neg (by omega), if_neg (by omega), if_neg (by omega), if_neg (by omega), if_neg (by omega), if_neg (by omega), if_neg (by omega), if_neg (by omega)]
      have r23 : az_up (az_up (sp_pack (sp_tt S s) s (S 21 s)) 22 s (-1)) 21 s (-1) 23 s = 0 := by
        rw [az_up_kn (by decide), az_up_kn (by decide), sp_pack_k (by decide) (by decide) (by decide), T 23 _ (by decide)]
        exact w23
      have c21 : sq_clear (sq_pack (sp_tt S s) s) s 21 s = -1 := by
        unfold sq_clear sq_fill
        rw [az_up_kn (by decide), az_up_kn (by decide), az_up_kn (by decide), az_up_kn (by decide), az_up_kn (by decide), az_up_ee]
      have pq : ∀ (k : Nat) (i : Int), k < 55 → sp_pack (sp_tt S s) s (S 21 s) k i = sq_pack (sp_tt S s) s k i := fun k i a => by
        unfold sp_pack sq_pack sq_sack
        rw [T 21 _ (by decide)]
        by_cases e1 : k = 27
        · subst e1
          rw [az_up_kn (by decide), az_up_kn (by decide), az_up_up, az_up_at, az_up_at, az_up_kn (by decide), az_up_kn (by decide)]
        · by_cases e2 : k = 50
          · subst e2
            simp (disch := decide) only [az_up_kn, az_up_at]
          · by_cases e3 : k = 53
            · subst e3
              simp (disch := decide) only [az_up_kn, az_up_at]
            · simp (disch := assumption) only [az_up_kn]
      unfold sp_we sq_we
      rw [r23, c21, if_pos rfl]
      have ck : ∀ (k : Nat) (i : Int), k < 55 → k ≠ 21 → k ≠ 22 → sq_clear (sq_pack (sp_tt S s) s) s k i = sq_pack (sp_tt S s) s k i := fun k i a b c => sq_clear_k b c (by omega) (by omega)
      by_cases e18 : k = 18
      · subst e18
        simp (disch := decide) only [az_up_kn, az_up_at]
        rw [ck 18 i (by decide) (by decide) (by decide), pq 18 i (by decide)]
        rfl
      · rw [az_up_kn e18, az_up_kn n20]
        by_cases e19 : k = 19
        · subst e19
          rw [az_up_at, az_up_kn (by decide), az_up_kn (by decide), az_up_kn (by decide), ck 19 i (by decide) (by decide) (by decide), pq 19 i (by decide)]
          split
          · rename_i q
            rw [q, ← pq 19 s (by decide), sp_pack_k (by decide) (by decide) (by decide)]; exact t19
          · rfl
        · rw [az_up_kn e19, az_up_kn e18]
          by_cases e21 : k = 21
          · subst e21
            unfold sq_clear sq_fill
            rw [az_up_at, az_up_kn (by decide), az_up_kn (by decide), az_up_kn (by decide), az_up_kn (by decide), az_up_kn (by decide), az_up_kn (by decide), az_up_at, pq 21 i (by decide)]
          · by_cases e22 : k = 22
            · subst e22
              unfold sq_clear sq_fill
              rw [az_up_kn (by decide), az_up_at, az_up_kn (by decide), az_up_kn (by decide), az_up_kn (by decide), az_up_kn (by decide), az_up_at, az_up_kn (by decide), pq 22 i (by decide)]
            · rw [az_up_kn e21, az_up_kn e22, ck k i a e21 e22, pq k i a]
  · unfold su_wk su_mix
    rw [if_neg a]
end IvS
