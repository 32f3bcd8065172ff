-- deps: 30.mK 31.mL 32.mM 34.mN 37.mQ 38.mR 39.mS 43.cls 44.sta 44.stb 44.stc 44.std 45.cA 46.cB 47.cC 48.cD 49.cE 50.cF 54.cI 55.cJ 58.cM 59.cN 43.raw 51.cG 53.cH 56.cK 57.cL 52.cG2 60.cO 61.cP 62.cQ 64.iA 65.iB 66.iC 67.iD 68.iE 69.iF 70.iG 72.iI 75.iL 76.iM 77.iN 34.mN2 34.mN3 35.mO 36.mP 33.mM2
section IvR
variable {S U Y X : az_M} {loc loc' : Int → Int} {D D' F : Nat} {s g gr o : Int}
theorem sp_part_k {k : Nat} {i : Int} (h1 : k ≠ 23) (h2 : k ≠ 24) (h3 : k ≠ 25) (h4 : k ≠ 26) : sp_part X s g gr o k i = X k i := by
  unfold sp_part
  rw [az_up_kn h1, az_up_kn h4, az_up_kn h3, az_up_kn h2]
theorem sp_part_23 {i : Int} : sp_part X s g gr o 23 i = if i = s then X 23 s + 1 else X 23 i := by
  unfold sp_part
  rw [az_up_at, az_up_kn (by decide), az_up_kn (by decide), az_up_kn (by decide)]
theorem sp_part_24 {i : Int} : sp_part X s g gr o 24 i = if i = 3 * s + X 23 s then g else X 24 i := by
  unfold sp_part
  rw [az_up_kn (by decide), az_up_kn (by decide), az_up_kn (by decide), az_up_at]
theorem sp_part_25 {i : Int} : sp_part X s g gr o 25 i = if i = 3 * s + X 23 s then gr else X 25 i := by
  unfold sp_part
  rw [az_up_kn (by decide), az_up_kn (by decide), az_up_at, az_up_kn (by decide)]
theorem sp_part_26 {i : Int} : sp_part X s g gr o 26 i = if i = 3 * s + X 23 s then o else X 26 i := by
  unfold sp_part
  rw [az_up_kn (by decide), az_up_at, az_up_kn (by decide), az_up_kn (by decide)]
def sp_p2 (S : az_M) (s l : Int) : Int := if S 13 s = 3 then sp_pc S s l 2 else 0
/-- the parts of a roll -/
def rl_w (T : az_M) (s l : Int) (W : az_M) : Prop := W 23 s = 1 + (if 0 < sp_pc T s l 1 then 1 else 0) + (if 0 < sp_p2 T s l then 1 else 0) ∧ (W 24 (3 * s) = sp_rest T s l ∧ W 25 (3 * s) = T 35 l ∧ W 26 (3 * s) = 0) ∧ (0 < sp_pc T s l 1 → W 24 (3 * s + 1) = sp_pc T s l 1 ∧ W 25 (3 * s + 1) = sp_hi T l 1 ∧ W 26 (3 * s + 1) = 1) ∧ (¬ 0 < sp_pc T s l 1 → 0 < sp_p2 T s l → W 24 (3 * s + 1) = sp_p2 T s l ∧ W 25 (3 * s + 1) = sp_hi T l 2 ∧ W 26 (3 * s + 1) = 2) ∧ (0 < sp_pc T s l 1 → 0 < sp_p2 T s l → W 24 (3 * s + 2) = sp_p2 T s l ∧ W 25 (3 * s + 2) = sp_hi T l 2 ∧ W 26 (3 * s + 2) = 2)
theorem sp_roll_W {T : az_M} {l : Int} (h23 : T 23 s = 0) : (∀ (k : Nat) (i : Int), k ≠ 23 → k ≠ 24 → k ≠ 25 → k ≠ 26 → k ≠ 34 → sp_roll T s l k i = T k i) ∧ (∀ x, sp_roll T s l 34 x = if x = l then sp_rest T s l else T 34 x) ∧ (∀ i, i ≠ s → sp_roll T s l 23 i = T 23 i) ∧ (∀ (k : Nat) (i : Int), k = 24 ∨ k = 25 ∨ k = 26 → i < 3 * s ∨ 3 * s + 2 < i → sp_roll T s l k i = T k i) ∧ rl_w T s l (sp_roll T s l) := by
  have e : sp_roll T s l = sp_pif (sp_pif (sp_part (az_up T 34 l (sp_rest T s l)) s (sp_rest T s l) (T 35 l) 0) s (sp_pc T s l 1) (sp_hi T l 1) 1) s (sp_p2 T s l) (sp_hi T l 2) 2 := by
    unfold sp_roll sp_p2
    by_cases c : T 13 s = 3
    · rw [if_pos c, if_pos c]
    · rw [if_neg c, if_neg c]
      exact (if_neg (show ¬ (0 : Int) < 0 by decide)).symm
  unfold rl_w
  rw [e]
  have x23 : az_up T 34 l (sp_rest T s l) 23 s = 0 := by rw [az_up_kn (by decide)]; exact h23
  generalize sp_pc T s l 1 = p1 at *
  generalize sp_hi T l 1 = h1 at *
  generalize sp_p2 T s l = p2 at *
  generalize sp_hi T l 2 = h2 at *
  generalize sp_rest T s l = rr at *
  have n21 : ∀ a : Int, 3 * s + 1 ≠ 3 * s + 2 ∧ 3 * s + 2 ≠ 3 * s + 1 ∧ 3 * s ≠ 3 * s + 1 ∧ 3 * s ≠ 3 * s + 2 ∧ 3 * s + 1 ≠ 3 * s ∧ 3 * s + 2 ≠ 3 * s := fun _ => by omega
  unfold sp_pif
  by_cases c1 : 0 < p1
  · by_cases c2 : 0 < p2
    · simp only [c1, c2, if_true]
      have y1 : sp_part (az_up T 34 l rr) s rr (T 35 l) 0 23 s = 1 := by rw [sp_part_23, if_pos rfl, x23]; rfl
      have y2 : sp_part (sp_part (az_up T 34 l rr) s rr (T 35 l) 0) s p1 h1 1 23 s = 2 := by rw [sp_part_23, if_pos rfl, y1]; rfl
      refine ⟨fun k i a b c d e => ?_, fun x => ?_, fun i a => ?_, fun k i q a => ?_, ?_, ?_, ?_, ?_, ?_⟩
      · rw [sp_part_k a b c d, sp_part_k a b c d, sp_part_k a b c d, az_up_kn e]
      · rw [sp_part_k (by decide) (by decide) (by decide) (by decide), sp_part_k (by decide) (by decide) (by decide) (by decide), sp_part_k (by decide) (by decide) (by decide) (by decide), az_up_at]
      · rw [sp_part_23, if_neg a, sp_part_23, if_neg a, sp_part_23, if_neg a, az_up_kn (by decide)]
      · rcases q with rfl | rfl | rfl
        · rw [sp_part_24, y2, if_neg (by omega), sp_part_24, y1, if_neg (by omega), sp_part_24, x23, if_neg (by omega), az_up_kn (by decide)]
        · rw [sp_part_25, y2, if_neg (by omega), sp_part_25, y1, if_neg (by omega), sp_part_25, x23, if_neg (by omega), az_up_kn (by decide)]
        · rw [sp_part_26, y2, if_neg (by omega), sp_part_26, y1, if_neg (by omega), sp_part_26, x23, if_neg (by omega), az_up_kn (by decide)]
      · rw [sp_part_23, if_pos rfl, y2]; rfl
      · rw [sp_part_24, sp_part_24, sp_part_24, sp_part_25, sp_part_25, sp_part_25, sp_part_26, sp_part_26, sp_part_26, y2, y1, x23]
        simp (disch := omega) only [if_neg, if_pos, if_true, Int.add_zero, and_self]
      · intro _
        rw [sp_part_24, sp_part_24, sp_part_25, sp_part_25, sp_part_26, sp_part_26, y2, y1]
        simp (disch := omega) only [if_neg, if_pos, if_true, and_self]
      · intro a
        exact absurd trivial a
      · intro _ _
        rw [sp_part_24, sp_part_25, sp_part_26, y2, if_pos rfl, if_pos rfl, if_pos rfl]
        exact ⟨rfl, rfl, rfl⟩
    · simp only [c1, c2, if_true, if_false]
      have y1 : sp_part (az_up T 34 l rr) s rr (T 35 l) 0 23 s = 1 := by rw [sp_part_23, if_pos rfl, x23]; rfl
      refine ⟨fun k i a b c d e => ?_, fun x => ?_, fun i a => ?_, fun k i q a => ?_, ?_, ?_, ?_, ?_, ?_⟩
      · rw [sp_part_k a b c d, sp_part_k a b c d, az_up_kn e]
      · rw [sp_part_k (by decide) (by decide) (by decide) (by decide), sp_part_k (by decide) (by decide) (by decide) (by decide), az_up_at]
      · rw [sp_part_23, if_neg a, sp_part_23, if_neg a, az_up_kn (by decide)]
      · rcases q with rfl | rfl | rfl
        · rw [sp_part_24, y1, if_neg (by omega), sp_part_24, x23, if_neg (by omega), az_up_kn (by decide)]
        · rw [sp_part_25, y1, if_neg (by omega), sp_part_25, x23, if_neg (by omega), az_up_kn (by decide)]
        · rw [sp_part_26, y1, if_neg (by omega), sp_part_26, x23, if_neg (by omega), az_up_kn (by decide)]
      · rw [sp_part_23, if_pos rfl, y1]; rfl
      · rw [sp_part_24, sp_part_24, sp_part_25, sp_part_25, sp_part_26, sp_part_26, y1, x23]
        simp (disch := omega) only [if_neg, if_pos, if_true, Int.add_zero, and_self]
      · intro _
        rw [sp_part_24, sp_part_25, sp_part_26, y1, if_pos rfl, if_pos rfl, if_pos rfl]
        exact ⟨rfl, rfl, rfl⟩
      · intro a
        exact absurd trivial a
      · intro _ a
        exact absurd a (fun q => q)
  · by_cases c2 : 0 < p2
    · simp only [c1, c2, if_true, if_false]
      have y1 : sp_part (az_up T 34 l rr) s rr (T 35 l) 0 23 s = 1 := by rw [sp_part_23, if_pos rfl, x23]; rfl
      refine ⟨fun k i a b c d e => ?_, fun x => ?_, fun i a => ?_, fun k i q a => ?_, ?_, ?_, ?_, ?_, ?_⟩
      · rw [sp_part_k a b c d, sp_part_k a b c d, az_up_kn e]
      · rw [sp_part_k (by decide) (by decide) (by decide) (by decide), sp_part_k (by decide) (by decide) (by decide) (by decide), az_up_at]
      · rw [sp_part_23, if_neg a, sp_part_23, if_neg a, az_up_kn (by decide)]
      · rcases q with rfl | rfl | rfl
        · rw [sp_part_24, y1, if_neg (by omega), sp_part_24, x23, if_neg (by omega), az_up_kn (by decide)]
        · rw [sp_part_25, y1, if_neg (by omega), sp_part_25, x23, if_neg (by omega), az_up_kn (by decide)]
        · rw [sp_part_26, y1, if_neg (by omega), sp_part_26, x23, if_neg (by omega), az_up_kn (by decide)]
      · rw [sp_part_23, if_pos rfl, y1]; rfl
      · rw [sp_part_24, sp_part_24, sp_part_25, sp_part_25, sp_part_26, sp_part_26, y1, x23]
        simp (disch := omega) only [if_neg, if_pos, if_true, Int.add_zero, and_self]
      · intro a
        exact absurd a (fun q => q)
      · intro _ _
        rw [sp_part_24, sp_part_25, sp_part_26, y1, if_pos rfl, if_pos rfl, if_pos rfl]
        exact ⟨rfl, rfl, rfl⟩
      · intro a
        exact absurd a (fun q => q)
    · simp only [c1, c2, if_false]
      refine ⟨fun k i a b c d e => ?_, fun x => ?_, fun i a => ?_, fun k i q a => ?_, ?_, ?_, ?_, ?_, ?_⟩
      · rw [sp_part_k a b c d, az_up_kn e]
      · rw [sp_part_k (by decide) (by decide) (by decide) (by decide), az_up_at]
      · rw [sp_part_23, if_neg a, az_up_kn (by decide)]
      · rcases q with rfl | rfl | rfl
        · rw [sp_part_24, x23, if_neg (by omega), az_up_kn (by decide)]
        · rw [sp_part_25, x23, if_neg (by omega), az_up_kn (by decide)]
        · rw [sp_part_26, x23, if_neg (by omega), az_up_kn (by decide)]
      · rw [sp_part_23, if_pos rfl, x23]; rfl
      · rw [sp_part_24, sp_part_25, sp_part_26, x23, Int.add_zero, if_pos rfl, if_pos rfl, if_pos rfl]
        exact ⟨rfl, rfl, rfl⟩
      · intro a
        exact absurd a (fun q => q)
      · intro _ a
        exact absurd a (fun q => q)
      · intro a
        exact absurd a (fun q => q)
/-- roll -/
theorem Inv.wkR (h : Inv S loc D F) (h0 : S 0 0 = 1) (h1 : 0 ≤ s) (h2 : s < 12) (c : S 7 s = 1) (m : S 18 s = 1) (m19 : S 19 s = 1) (hb : S 28 s < S 2 0) (hn : ∀ q, 0 ≤ q → q < S 38 0 → ¬ (S 39 q = s ∧ S 40 q = S 28 s + 1)) (k : S 8 s = 2) : Inv (su_wk S s) loc D F := by
  have g2 := h.a.g2
  have en := h.p.en s h1 h2
  obtain ⟨⟨f1, f2⟩, f3, f4, w23, w20, w108, w9, w91, w92, rm⟩ := (h.wk s h1 h2 c m).2
  have s22 := f3 (by omega)
  have lot := h.lot f1.1 f1.2 (by omega)
  have fl := h.z.lo _ f1.1 f1.2
  have kd := h.kind h0 s h1 h2 c
  have st := h.l.st h0 s h1 h2 c
  have sh := h.l.sh s h1 h2 c k
  have T : ∀ (k : Nat) (i : Int), k ≠ 19 ∧ k ≠ 28 → sp_tt S s k i = S k i := fun k i q => sp_tt_k q.1 q.2
  have t19 : ∀ i, sp_tt S s 19 i = if i = s then 0 else S 19 i := fun i => by rw [sp_tt_19, m19]; rfl
  have t28 := fun i => sp_tt_28 (S := S) (s := s) (i := i) (by omega)
  have eR : sp_worked (sp_tt S s) s = sp_roll (sp_tt S s) s (S 21 s) := by
    unfold sp_worked
    rw [T 8 _ (by decide), if_neg (by omega), if_neg (by omega), if_pos k, T 21 _ (by decide)]
  have eC : sq_worked (sp_tt S s) s = sq_roll (sp_tt S s) s := by
    unfold sq_worked
    rw [T 8 _ (by decide), if_neg (by omega), if_neg (by omega), if_pos k]
  have g1 : 1 ≤ S 34 (S 21 s) := fl.1
  have kr := kd.2.2.2.2.2.2.1 k
  have ep1 : sp_pc (sp_tt S s) s (S 21 s) 1 = sp_pc S s (S 21 s) 1 := by unfold sp_pc; rw [T 34 _ (by decide), T 15 _ (by decide)]
  have ep2' : sp_pc (sp_tt S s) s (S 21 s) 2 = sp_pc S s (S 21 s) 2 := by unfold sp_pc; rw [T 34 _ (by decide), T 15 _ (by decide)]
  have ep2 : sp_p2 (sp_tt S s) s (S 21 s) = sp_p2 S s (S 21 s) := by unfold sp_p2; rw [T 13 _ (by decide), ep2']
  have ehi : ∀ o, sp_hi (sp_tt S s) (S 21 s) o = sp_hi S (S 21 s) o := fun o => by unfold sp_hi; rw [T 35 _ (by decide)]
  have er : sp_rest (sp_tt S s) s (S 21 s) = S 34 (S 21 s) - sp_pc S s (S 21 s) 1 - sp_p2 S s (S 21 s) := by
    unfold sp_rest sp_p2
    rw [T 13 _ (by decide), T 34 _ (by decide), ep1, ep2']
    split
    · rfl
    · omega
  have pb1 := sq_pc_b (S := S) (s := s) (l := S 21 s) (i := 1) (by have := lot.2.1; omega) kr.2.1
  have sums : 0 ≤ sp_p2 S s (S 21 s) ∧ 1000 * (sp_pc S s (S 21 s) 1 + sp_p2 S s (S 21 s)) ≤ 999 * S 34 (S 21 s) ∧ (0 < sp_p2 S s (S 21 s) → S 13 s = 3) := by
    unfold sp_p2
    by_cases d : S 13 s = 3
    · rw [if_pos d]
      have r3 := kr.2.2 d
      have pb2 := sq_pc_b (S := S) (s := s) (l := S 21 s) (i := 2) (by have := lot.2.1; omega) ⟨r3.1, r3.2.1⟩
      have a0 := sh 0 (by decide) (by omega)
      rw [Int.add_zero] at a0
      have sm := st.2.2 k
      have es : sp_shs S s = S 15 (3 * s) + S 15 (3 * s + 1) + S 15 (3 * s + 2) := by
        unfold sp_shs
        rw [d]
        show (0 : Int) + S 15 (3 * s + 0) + S 15 (3 * s + 1) + S 15 (3 * s + 2) = _
        rw [Int.add_zero]
        omega
      have mm : S 34 (S 21 s) * (S 15 (3 * s + 1) + S 15 (3 * s + 2)) ≤ S 34 (S 21 s) * 999 := Int.mul_le_mul_of_nonneg_left (by omega) (by omega)
      rw [Int.mul_add] at mm
      exact ⟨pb2.1, by omega, fun _ => d⟩
    · rw [if_neg d]
      have mm : S 34 (S 21 s) * S 15 (3 * s + 1) ≤ S 34 (S 21 s) * 999 := Int.mul_le_mul_of_nonneg_left kr.2.1.2 (by omega)
      exact ⟨Int.le_refl 0, by omega, fun q => by omega⟩
  obtain ⟨W1, W2, W3, W4, W5⟩ := sp_roll_W (T := sp_tt S s) (s := s) (l := S 21 s) (by rw [T 23 _ (by decide)]; exact w23)
  have r23 : 0 < sp_roll (sp_tt S s) s (S 21 s) 23 s := by
    rw [W5.1]
    split <;> split <;> omega
  have lo : ∀ (k : Nat) (i : Int), k < 55 → k ≠ 18 ∧ k ≠ 20 → su_wk S s k i = sp_roll (sp_tt S s) s (S 21 s) k i := fun k i a b => by
    rw [su_wk_lo a]
    unfold sp_we
    rw [az_up_kn b.1, az_up_kn b.2, eR]
  have P : ∀ (k : Nat) (i : Int), k < 55 → k ≠ 18 ∧ k ≠ 19 ∧ k ≠ 20 ∧ k ≠ 23 ∧ k ≠ 24 ∧ k ≠ 25 ∧ k ≠ 26 ∧ k ≠ 28 ∧ k ≠ 34 → su_wk S s k i = S k i := fun k i a b => by
    rw [lo k i a (by omega), W1 k i (by omega) (by omega) (by omega) (by omega) (by omega), T k i (by omega)]
  have u18 : ∀ i, su_wk S s 18 i = if i = s then 2 else S 18 i := fun i => by
    rw [su_wk_lo (by decide)]
    unfold sp_we
    rw [az_up_at, eR, if_pos r23, az_up_kn (by decide), W1 18 i (by decide) (by decide) (by decide) (by decide) (by decide), T 18 _ (by decide)]
  have u20 : ∀ i, su_wk S s 20 i = if i = s then 1 else S 20 i := fun i => by
    rw [su_wk_lo (by decide)]
    unfold sp_we
    rw [az_up_kn (by decide), az_up_at, eR, if_pos r23, W1 20 i (by decide) (by decide) (by decide) (by decide) (by decide), T 20 _ (by decide)]
  have u19 : ∀ i, su_wk S s 19 i = if i = s then 0 else S 19 i := fun i => by
    rw [lo 19 i (by decide) (by decide), W1 19 i (by decide) (by decide) (by decide) (by decide) (by decide), t19]
  have u28 : ∀ i, su_wk S s 28 i = if i = s then S 28 s + 1 else S 28 i := fun i => by
    rw [lo 28 i (by decide) (by decide), W1 28 i (by decide) (by decide) (by decide) (by decide) (by decide), t28]
  have u34 : ∀ x, su_wk S s 34 x = if x = S 21 s then S 34 (S 21 s) - sp_pc S s (S 21 s) 1 - sp_p2 S s (S 21 s) else S 34 x := fun x => by
    rw [lo 34 x (by decide) (by decide), W2, er, T 34 _ (by decide)]
  have q109 : ∀ i, su_wk S s 109 i = if i = 3 * s + 2 then sp_p2 S s (S 21 s) else if i = 3 * s + 1 then sp_pc S s (S 21 s) 1 else S 109 i := fun i => by
    rw [su_wk_hi (by decide), eC]
    unfold sq_roll
    rw [az_up_kn (by decide), T 13 _ (by decide), T 21 _ (by decide), ep1, ep2']
    unfold sp_p2
    by_cases d : S 13 s = 3
    · rw [if_pos d, if_pos d, az_up_at, az_up_at, T 109 _ (by decide)]
    · rw [if_neg d, if_neg d, az_up_at, T 109 _ (by decide)]
      split
      · rename_i e
        rw [if_neg (by omega)]
      · split
        · rename_i e; rw [e]; exact w92
        · rfl
  have hi : ∀ (k : Nat) (i : Int), 55 ≤ k → k ≠ 109 → su_wk S s k i = S k i := fun k i a b => by
    rw [su_wk_hi a, eC]
    unfold sq_roll
    rw [az_up_kn (by omega)]
    split
    · rw [az_up_kn b, az_up_kn b, T k i (by omega)]
    · rw [az_up_kn b, T k i (by omega)]
  have w : iW S (su_wk S s) s := by
    refine ⟨fun k i q => ?_, fun k i e q => ?_, fun k i e q => ?_, fun i e => ?_, fun x e => ?_⟩
    · unfold wk_k at q
      by_cases a : k < 55
      · exact P k i a (by omega)
      · exact hi k i (by omega) (by omega)
    · rcases q with rfl | rfl | rfl | rfl | rfl | rfl | rfl | rfl | rfl
      · rw [u18, if_neg e]
      · rw [u19, if_neg e]
      · rw [u20, if_neg e]
      · exact P 21 i (by decide) (by decide)
      · exact P 22 i (by decide) (by decide)
      · rw [lo 23 i (by decide) (by decide), W3 i e, T 23 _ (by decide)]
      · rw [u28, if_neg e]
      · exact P 32 i (by decide) (by decide)
      · exact hi 108 i (by decide) (by decide)
    · rcases q with rfl | rfl | rfl | rfl
      · rw [lo 24 i (by decide) (by decide), W4 24 i (by decide) e, T 24 _ (by decide)]
      · rw [lo 25 i (by decide) (by decide), W4 25 i (by decide) e, T 25 _ (by decide)]
      · rw [lo 26 i (by decide) (by decide), W4 26 i (by decide) e, T 26 _ (by decide)]
      · rw [q109, if_neg (by omega), if_neg (by omega)]
    · exact P 27 i (by decide) (by decide)
    · exact ⟨by rw [u34, if_neg e], P 35 _ (by decide) (by decide), P 36 _ (by decide) (by decide), fun j _ _ => P 37 _ (by decide) (by decide)⟩
  have e21 : su_wk S s 21 s = S 21 s := P 21 _ (by decide) (by decide)
  have n0 : su_wk S s 109 (3 * s) = 0 := by rw [q109, if_neg (by omega), if_neg (by omega)]; exact w9
  have n1 : su_wk S s 109 (3 * s + 1) = sp_pc S s (S 21 s) 1 := by rw [q109, if_neg (by omega), if_pos rfl]
  have n2 : su_wk S s 109 (3 * s + 2) = sp_p2 S s (S 21 s) := by rw [q109, if_pos rfl]
  have uhi : ∀ o, sp_hi (su_wk S s) (S 21 s) o = sp_hi S (S 21 s) o := fun o => by unfold sp_hi; rw [P 35 _ (by decide) (by decide)]
  obtain ⟨X1, X2, X3, X4, X5⟩ := W5
  rw [ep1] at X3
  rw [ep1, ep2] at X1 X4 X5
  rw [ehi] at X3 X4 X5
  refine h.work h0 h1 h2 c m w ?_ (fun x _ _ => rfl) ?_ (fun g g1 g2 => ?_) ?_ (iQ_one h h1 h2 c m s22 w (fun x _ _ => rfl) ?_)
  · unfold iv_l at fl ⊢
    rw [u34, if_pos rfl, P 35 _ (by decide) (by decide), P 36 _ (by decide) (by decide), P 37 _ (by decide) (by decide), P 37 _ (by decide) (by decide), P 37 _ (by decide) (by decide), P 37 _ (by decide) (by decide)]
    exact ⟨by omega, fl.2⟩
  · rw [u18, if_pos rfl, u19, if_pos rfl]
    have l23 : su_wk S s 23 s = sp_roll (sp_tt S s) s (S 21 s) 23 s := lo 23 s (by decide) (by decide)
    have l24 := fun i => lo 24 i (by decide) (by decide)
    have l25 := fun i => lo 25 i (by decide) (by decide)
    have l26 := fun i => lo 26 i (by decide) (by decide)
    have e13 : su_wk S s 13 s = S 13 s := P 13 _ (by decide) (by decide)
    have e108 : su_wk S s 108 s = S 108 s := hi 108 _ (by decide) (by decide)
    refine Or.inr (Or.inr (Or.inl ⟨rfl, rfl, ⟨?_, ?_⟩, ?_, ?_, ?_, ?_, ?_, ?_, ?_, ?_, ?_, ?_⟩))
    · rw [e21, P 33 _ (by decide) (by decide)]; exact f1
    · rw [e21]; exact f2
    · rw [P 22 _ (by decide) (by decide)]; exact s22
    · rw [u20, if_pos rfl]
    · rw [e108, e13, w108]; omega
    · rw [l26, X2.2.2, e108, w108]
    · rw [l24, X2.1, e21, u34, if_pos rfl, er]
    · rw [l25, X2.2.1, e21, P 35 _ (by decide) (by decide), T 35 _ (by decide)]
    · exact n0
    · rw [n1, n2]; omega
    · rw [e108]; exact fun _ => w108
    · unfold iv_pc
      rw [n1, n2, l23, X1, l24, l25, l26, l24, l25, l26, e21, uhi, uhi, e13]
      by_cases c1 : 0 < sp_pc S s (S 21 s) 1
      · by_cases c2 : 0 < sp_p2 S s (S 21 s)
        · have x3 := X3 c1
          have x5 := X5 c1 c2
          have d3 := sums.2.2 c2
          refine Or.inr (Or.inr (Or.inr ⟨c1, c2, ?_, ⟨x3.2.2, x3.1, x3.2.1, by omega⟩, ⟨x5.2.2, x5.1, x5.2.1, by omega⟩⟩))
          rw [if_pos c1, if_pos c2]
          rfl
        · have x3 := X3 c1
          refine Or.inr (Or.inl ⟨c1, by omega, ?_, x3.2.2, x3.1, x3.2.1, by omega⟩)
          rw [if_pos c1, if_neg c2]
          rfl
      · by_cases c2 : 0 < sp_p2 S s (S 21 s)
        · have x4 := X4 c1 c2
          have d3 := sums.2.2 c2
          refine Or.inr (Or.inr (Or.inl ⟨by omega, c2, ?_, x4.2.2, x4.1, x4.2.1, by omega⟩))
          rw [if_neg c1, if_pos c2]
          rfl
        · refine Or.inl ⟨by omega, by omega, ?_⟩
          rw [if_neg c1, if_neg c2]
          rfl
  · rw [P 27 _ (by decide) (by decide)]
    exact (h.m.le s g h1 h2 g1 g2).1
  · refine iP_end h h1 h2 c m w (fun x _ _ => rfl) ?_ hb (fun k i q => ?_) ?_ hn
    · rw [u28, if_pos rfl]
    · by_cases a : k < 55
      · exact P k i a (by omega)
      · exact hi k i (by omega) (by omega)
    · rw [P 32 _ (by decide) (by decide)]
      exact h.p.fr s h1 h2
  · unfold ps_l ps_s
    rw [if_neg (by omega), if_neg (by omega), e21, if_neg (by omega), n0, n1, n2, u34, if_pos rfl, P 36 _ (by decide) (by decide), ← Int.add_mul]
    exact mx_le (by omega) fl.2.2.1.1
end IvR
