-- deps: 30.mK 31.mL 32.mM 34.mN 37.mQ 38.mR 39.mS 43.cls 44.sta 44.stb 44.stc 44.std 45.cA 46.cB 47.cC 48.cD 49.cE 50.cF 54.cI 55.cJ 58.cM 59.cN 43.raw 51.cG 53.cH 56.cK 57.cL 52.cG2 60.cO 61.cP 62.cQ 64.iA 65.iB 66.iC 67.iD 68.iE 69.iF 70.iG 72.iI 75.iL 34.mN2 34.mN3 35.mO 36.mP 33.mM2
/-! ===== a working ends without a fault ===== -/
def su_mix (R C : az_M) : az_M := fun k i => if k < 55 then R k i else C k i
section IvM
variable {S U Y : az_M} {loc loc' : Int → Int} {D D' F : Nat} {s : Int}
/-- the state when the works begin -/
def sp_tt (S : az_M) (s : Int) : az_M := sp_e0 (az_up S 19 s (S 19 s - 1)) s
theorem sp_tt_k {k : Nat} {i : Int} (h1 : k ≠ 19) (h2 : k ≠ 28) : sp_tt S s k i = S k i := by
  unfold sp_tt sp_e0
  rw [az_up_kn h2, az_up_kn h1]
theorem sp_tt_19 {i : Int} : sp_tt S s 19 i = if i = s then S 19 s - 1 else S 19 i := by
  unfold sp_tt sp_e0
  rw [az_up_kn (by decide), az_up_at]
theorem sp_tt_28 {i : Int} (h : 0 ≤ S 28 s ∧ S 28 s ≤ 5000) : sp_tt S s 28 i = if i = s then S 28 s + 1 else S 28 i := by
  unfold sp_tt sp_e0
  rw [az_up_at, az_up_kn (by decide), az_up_kn (by decide), az_w_id (by omega) (by omega)]
/-- clean, temper, sift, blend -/
theorem fin_work (h : Inv S loc D F) (h0 : S 0 0 = 1) (h1 : 0 ≤ s) (h2 : s < 12) (c : S 7 s = 1) (m : S 18 s = 1) (hb : S 28 s < S 2 0) (hn : ∀ q, 0 ≤ q → q < S 38 0 → ¬ (S 39 q = s ∧ S 40 q = S 28 s + 1))
    (yk : ∀ k i, k ≠ 19 ∧ k ≠ 28 ∧ k ≠ 34 ∧ k ≠ 35 ∧ k ≠ 36 ∧ k ≠ 37 ∧ k ≠ 49 ∧ k ≠ 51 → Y k i = S k i) (y19 : ∀ i, Y 19 i = if i = s then 0 else S 19 i) (y28 : ∀ i, Y 28 i = if i = s then S 28 s + 1 else S 28 i) (yl : ∀ x, x ≠ S 21 s → Y 34 x = S 34 x ∧ Y 35 x = S 35 x ∧ Y 36 x = S 36 x ∧ ∀ j, 0 ≤ j → j ≤ 3 → Y 37 (4 * x + j) = S 37 (4 * x + j)) (lL : iv_l Y (S 21 s)) (o : Int) (eo : o = if S 8 s = 3 ∧ S 9 s < Y 35 (S 21 s) then 1 else 0) (ho : o < S 13 s)
    (hU : ∀ k i, k < 55 → U k i = sp_we (sp_fin Y s (S 21 s)) s k i) (u108 : ∀ i, U 108 i = if i = s then o else S 108 i) (uh : ∀ k i, 55 ≤ k → k ≠ 108 → U k i = S k i)
    (hl : ∀ x, x ≠ S 21 s → x ≠ S 22 s → loc' x = loc x) (hf : loc' (S 21 s) = 20 + s) (hq : iW S U s → U 34 (S 21 s) = Y 34 (S 21 s) ∧ U 36 (S 21 s) = Y 36 (S 21 s) → ps_s U s = 0 → iQ U loc' D' F) : Inv U loc' D' F := by
  have wk := (h.wk s h1 h2 c m).2
  obtain ⟨⟨f1, f2⟩, f3, f4, w23, w20, w108, w9, w91, w92, rm⟩ := wk
  have pk : ∀ (k : Nat) (i : Int), k < 55 → k ≠ 18 → k ≠ 20 → k ≠ 22 → k ≠ 23 → k ≠ 24 → k ≠ 25 → k ≠ 26 → U k i = Y k i := fun k i a b c d e f g j => by
    rw [hU k i a]
    unfold sp_we sp_fin sp_part
    rw [az_up_kn b, az_up_kn c, az_up_kn e, az_up_kn j, az_up_kn g, az_up_kn f, az_up_kn d]
  have y23 : Y 23 s = 0 := by rw [yk 23 _ (by decide)]; exact w23
  have x23 : az_up Y 22 s (-1) 23 s = 0 := by rw [az_up_kn (by decide)]; exact y23
  have v23 : sp_fin Y s (S 21 s) 23 s = 1 := by
    unfold sp_fin sp_part
    rw [az_up_ee, x23]
    rfl
  have u18 : ∀ i, U 18 i = if i = s then 2 else S 18 i := fun i => by
    rw [hU 18 i (by decide)]
    unfold sp_we
    rw [az_up_at, v23, az_up_kn (by decide)]
    split
    · rfl
    · unfold sp_fin sp_part
      simp (disch := decide) only [az_up_kn]
      exact yk 18 i (by decide)
  have u20 : ∀ i, U 20 i = if i = s then 1 else S 20 i := fun i => by
    rw [hU 20 i (by decide)]
    unfold sp_we
    rw [az_up_kn (by decide), az_up_at, v23]
    split
    · rfl
    · unfold sp_fin sp_part
      simp (disch := decide) only [az_up_kn]
      exact yk 20 i (by decide)
  have u22 : ∀ i, U 22 i = if i = s then -1 else S 22 i := fun i => by
    rw [hU 22 i (by decide)]
    unfold sp_we sp_fin sp_part
    simp (disch := decide) only [az_up_kn]
    rw [az_up_at]
    split
    · rfl
    · exact yk 22 i (by decide)
  have u23 : ∀ i, U 23 i = if i = s then 1 else S 23 i := fun i => by
    rw [hU 23 i (by decide)]
    unfold sp_we sp_fin sp_part
    simp (disch := decide) only [az_up_kn]
    rw [az_up_at, y23]
    split
    · rfl
    · simp (disch := decide) only [az_up_kn]
      exact yk 23 i (by decide)
  have u24 : ∀ i, U 24 i = if i = 3 * s then Y 34 (S 21 s) else S 24 i := fun i => by
    rw [hU 24 i (by decide)]
    unfold sp_we sp_fin sp_part
    simp (disch := decide) only [az_up_kn]
    rw [az_up_at, y23, Int.add_zero]
    split
    · rfl
    · simp (disch := decide) only [az_up_kn]
      exact yk 24 i (by decide)
  have u25 : ∀ i, U 25 i = if i = 3 * s then Y 35 (S 21 s) else S 25 i := fun i => by
    rw [hU 25 i (by decide)]
    unfold sp_we sp_fin sp_part
    simp (disch := decide) only [az_up_kn]
    rw [az_up_at, y23, Int.add_zero]
    split
    · rfl
    · simp (disch := decide) only [az_up_kn]
      exact yk 25 i (by decide)
  have u26 : ∀ i, U 26 i = if i = 3 * s then o else S 26 i := fun i => by
    rw [hU 26 i (by decide)]
    unfold sp_we sp_fin sp_part
    simp (disch := decide) only [az_up_kn]
    rw [az_up_at, y23, Int.add_zero, yk 8 _ (by decide), yk 9 _ (by decide), ← eo]
    split
    · rfl
    · simp (disch := decide) only [az_up_kn]
      exact yk 26 i (by decide)
  have P : ∀ (k : Nat) (i : Int), k < 55 → (k ≠ 18 ∧ k ≠ 20 ∧ k ≠ 22 ∧ k ≠ 23 ∧ k ≠ 24 ∧ k ≠ 25 ∧ k ≠ 26) → U k i = Y k i := fun k i a b => pk k i a b.1 b.2.1 b.2.2.1 b.2.2.2.1 b.2.2.2.2.1 b.2.2.2.2.2.1 b.2.2.2.2.2.2
  have n109 : ∀ i, U 109 i = S 109 i := fun i => uh 109 i (by decide) (by decide)
  have w : iW S U s := by
    refine ⟨fun k i q => ?_, fun k i e q => ?_, fun k i e q => ?_, fun i e => ?_, fun x e => ?_⟩
    · unfold wk_k at q
      by_cases a : k < 55
      · rw [P k i a (by omega), yk k i (by omega)]
      · exact uh k i (by omega) (by omega)
    · rcases q with rfl | rfl | rfl | rfl | rfl | rfl | rfl | rfl | rfl
      · rw [u18, if_neg e]
      · rw [P 19 i (by decide) (by decide), y19, if_neg e]
      · rw [u20, if_neg e]
      · rw [P 21 i (by decide) (by decide), yk 21 i (by decide)]
      · rw [u22, if_neg e]
      · rw [u23, if_neg e]
      · rw [P 28 i (by decide) (by decide), y28, if_neg e]
      · rw [P 32 i (by decide) (by decide), yk 32 i (by decide)]
      · rw [u108, if_neg e]
    · rcases q with rfl | rfl | rfl | rfl
      · rw [u24, if_neg (by omega)]
      · rw [u25, if_neg (by omega)]
      · rw [u26, if_neg (by omega)]
      · exact n109 i
    · rw [P 27 i (by decide) (by decide), yk 27 i (by decide)]
    · rw [P 34 _ (by decide) (by decide), P 35 _ (by decide) (by decide), P 36 _ (by decide) (by decide)]
      refine ⟨(yl x e).1, (yl x e).2.1, (yl x e).2.2.1, fun j j1 j2 => ?_⟩
      rw [P 37 _ (by decide) (by decide)]
      exact (yl x e).2.2.2 j j1 j2
  have ob : 0 ≤ o := by rw [eo]; split <;> omega
  have ps0 : ps_s U s = 0 := by
    unfold ps_s
    rw [n109, n109, n109, w9, w91, w92]
    simp
  refine h.work h0 h1 h2 c m w ?_ hl ?_ (fun g g1 g2 => ?_) ?_ (hq w ⟨P 34 _ (by decide) (by decide), P 36 _ (by decide) (by decide)⟩ ps0)
  · unfold iv_l at lL ⊢
    rw [P 34 _ (by decide) (by decide), P 35 _ (by decide) (by decide), P 36 _ (by decide) (by decide), P 37 _ (by decide) (by decide), P 37 _ (by decide) (by decide), P 37 _ (by decide) (by decide), P 37 _ (by decide) (by decide)]
    exact lL
  · rw [u18, if_pos rfl, P 19 _ (by decide) (by decide), y19, if_pos rfl]
    have e21 : U 21 s = S 21 s := by rw [P 21 _ (by decide) (by decide), yk 21 _ (by decide)]
    refine Or.inr (Or.inr (Or.inl ⟨rfl, rfl, ⟨?_, ?_⟩, ?_, ?_, ?_, ?_, ?_, ?_, ?_, ?_, ?_, Or.inl ⟨?_, ?_, ?_⟩⟩))
    · rw [e21, P 33 _ (by decide) (by decide), yk 33 _ (by decide)]; exact f1
    · rw [e21]; exact hf
    · rw [u22, if_pos rfl]
    · rw [u20, if_pos rfl]
    · rw [u108, if_pos rfl, P 13 _ (by decide) (by decide), yk 13 _ (by decide)]; exact ⟨ob, ho⟩
    · rw [u26, if_pos rfl, u108, if_pos rfl]
    · rw [u24, if_pos rfl, e21, P 34 _ (by decide) (by decide)]
    · rw [u25, if_pos rfl, e21, P 35 _ (by decide) (by decide)]
    · rw [n109]; exact w9
    · rw [n109, n109]; omega
    · rw [n109, n109]
      intro q
      omega
    · rw [n109]; exact w91
    · rw [n109]; exact w92
    · rw [u23, if_pos rfl]
  · rw [P 27 _ (by decide) (by decide), yk 27 _ (by decide)]
    exact (h.m.le s g h1 h2 g1 g2).1
  · refine iP_end h h1 h2 c m w hl ?_ hb (fun k i q => ?_) ?_ hn
    · rw [P 28 _ (by decide) (by decide), y28, if_pos rfl]
    · by_cases a : k < 55
      · rw [P k i a (by omega), yk k i (by omega)]
      · exact uh k i (by omega) (by omega)
    · rw [P 32 _ (by decide) (by decide), yk 32 _ (by decide)]
      exact h.p.fr s h1 h2
/-- a product with mx, when the grams go down -/
theorem mx_le {g g' d : Int} (h1 : g' ≤ g) (hd : 0 ≤ d) : g' * mx d ≤ g * mx d := Int.mul_le_mul_of_nonneg_right h1 (by have := mx_b d hd; omega)
end IvM
