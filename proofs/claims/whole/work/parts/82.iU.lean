-- deps: 30.mK 31.mL 32.mM 34.mN 37.mQ 38.mR 39.mS 43.cls 44.sta 44.stb 44.stc 44.std 45.cA 46.cB 47.cC 48.cD 49.cE 50.cF 54.cI 55.cJ 58.cM 59.cN 43.raw 51.cG 53.cH 56.cK 57.cL 52.cG2 60.cO 61.cP 62.cQ 64.iA 65.iB 66.iC 67.iD 68.iE 69.iF 70.iG 72.iI 75.iL 76.iM 77.iN 79.iR 80.iS 81.iT 34.mN2 34.mN3 35.mO 36.mP 33.mM2
/-! ===== a working ends with a fault ===== -/
section IvU
variable {n r : Nat} {G : cz_G} {S U Y : az_M} {loc loc' : Int → Int} {D D' F : Nat} {s p t : Int} {f : Nat → az_C} {z : Nat × Nat}
def su_V (S : az_M) (s p : Int) : az_M := az_up (az_up (az_up (sp_tt S s) 32 s (az_w (S 32 s + 1))) 42 p 1) 102 0 (S 102 0 + 1)
def su_fl (S : az_M) (s p t : Int) : az_M := if sp_way S s t = 0 then sq_f0 (su_V S s p) s t else if sp_way S s t = 1 then sp_f1 (su_V S s p) s else sp_stops (su_V S s p)
theorem su_V_k {k : Nat} {i : Int} (h1 : k ≠ 19) (h2 : k ≠ 28) (h3 : k ≠ 32) (h4 : k ≠ 42) (h5 : k ≠ 102) : su_V S s p k i = S k i := by
  unfold su_V
  rw [az_up_kn h5, az_up_kn h4, az_up_kn h3, sp_tt_k h1 h2]
theorem iP_fault (h : Inv S loc D F) (h1 : 0 ≤ s) (h2 : s < 12) (c : S 7 s = 1) (hp : 0 ≤ p ∧ p < S 38 0) (hp1 : S 39 p = s) (hp2 : S 40 p = S 28 s + 1) (hb : S 28 s < S 2 0) (ku : ∀ (k : Nat) (i : Int), k = 2 ∨ k = 7 ∨ k = 38 ∨ k = 39 ∨ k = 40 ∨ k = 41 → U k i = S k i) (u28 : ∀ i, U 28 i = if i = s then S 28 s + 1 else S 28 i) (u42 : ∀ i, U 42 i = if i = p then 1 else S 42 i) (u102 : U 102 0 = S 102 0 + 1) (u32 : ∀ i, 0 ≤ i → i < 12 → -2147483648 ≤ U 32 i ∧ U 32 i < 2147483648) (as' : 0 ≤ U 43 0 ∧ U 43 0 ≤ 2 * (S 102 0 + 1)) (al' : ∀ i, 0 ≤ i → i < U 43 0 → (0 ≤ U 44 i ∧ U 44 i < U 33 0) ∧ loc' (U 44 i) = 0 ∧ U 101 i = U 34 (U 44 i)) : iP U loc' := by
  obtain ⟨a1, b1, b1', d1, e1, g1, i1, j1, l1, m1⟩ := h.p
  have p40 := a1.1
  have z : S 42 p = 0 := by
    have q := d1 p hp.1 hp.2
    have w := b1 p hp.1 (by omega)
    rw [hp1, hp2] at q
    omega
  refine ⟨?_, fun q q1 q2 => ?_, fun q q1 q2 => ?_, fun q q1 q2 => ?_, ?_, fun x x1 x2 => ?_, ?_, ?_, al', u32⟩
  · simp only [iv_plans, ku 38 _ (by decide), ku 39 _ (by decide), ku 40 _ (by decide), ku 41 _ (by decide)]; exact a1
  · rw [u42]
    have := b1 q q1 q2
    split <;> omega
  · rw [ku 38 _ (by decide)] at q1
    rw [u42, if_neg (by omega)]
    exact b1' q q1 q2
  · rw [ku 38 _ (by decide)] at q2
    have w := d1 q q1 q2
    rw [ku 39 _ (by decide), ku 7 _ (by decide), ku 40 _ (by decide), u42, u28]
    refine ⟨w.1, w.2.1, ?_⟩
    by_cases e : q = p
    · subst e
      rw [if_pos rfl, if_pos hp1]
      omega
    · rw [if_neg e]
      split
      · rename_i x
        have ne : ¬ (S 39 q = S 39 p ∧ S 40 q = S 40 p) := by
          rcases Int.lt_or_gt_of_ne e with y | y
          · exact e1 q p q1 y hp.2
          · exact fun v => e1 p q hp.1 y q2 ⟨v.1.symm, v.2.symm⟩
        rw [x] at w
        rw [x, hp1, hp2] at ne
        omega
      · exact w.2.2
  · simp only [ku 38 _ (by decide), ku 39 _ (by decide), ku 40 _ (by decide)]; exact e1
  · rw [u28, ku 2 _ (by decide)]
    have := g1 x x1 x2
    split
    · rename_i e
      rw [e] at this
      omega
    · exact this
  · rw [u102, i1]
    have e := sm_up (g := S 42) (h := U 42) p 40 hp.1 (by omega) (fun j _ _ n => by rw [u42, if_neg n])
    rw [e, u42, if_pos rfl, z]
    omega
  · rw [u102]
    omega
/-- everything but the stage's own fate -/
theorem Inv.flt (h : Inv S loc D F) (h0 : S 0 0 = 1) (h1 : 0 ≤ s) (h2 : s < 12) (c : S 7 s = 1) (m : S 18 s = 1) (m19 : S 19 s = 1) (hb : S 28 s < S 2 0) (hp : 0 ≤ p ∧ p < S 38 0) (hp1 : S 39 p = s) (hp2 : S 40 p = S 28 s + 1) (ht : t = S 41 p) : ∃ loc' D', Inv (su_fl S s p t) loc' D' F := by
  have g2 := h.a.g2
  have g33 := h.a.g33
  have en := h.p.en s h1 h2
  have la := h.l.la s h1 h2 c
  have st := h.l.st h0 s h1 h2 c
  have ru := h.l.ru s h1 h2 c
  obtain ⟨⟨f1, f2⟩, f3, f4, w23, w20, w108, w9, w91, w92, rm⟩ := (h.wk s h1 h2 c m).2
  have fl := h.z.lo _ f1.1 f1.2
  have f2' := iv_second h.m s h1 h2 (h.l.s7 s h1 h2)
  have pp := h.p.pl
  have tb := (pp.2 p hp.1 (by have := pp.1; omega)).2.2
  have r16 := ru.1 t (by omega) (by omega)
  have wr := az_w_r (S 32 s + 1)
  have as0 := h.p.as
  have T : ∀ (k : Nat) (i : Int), k ≠ 19 ∧ k ≠ 28 → sp_tt S s k i = S k i := fun k i q => sp_tt_k q.1 q.2
  have VK := fun (k : Nat) (i : Int) (q : k ≠ 19 ∧ k ≠ 28 ∧ k ≠ 32 ∧ k ≠ 42 ∧ k ≠ 102) => su_V_k (S := S) (s := s) (p := p) (i := i) q.1 q.2.1 q.2.2.1 q.2.2.2.1 q.2.2.2.2
  have v19 : ∀ i, su_V S s p 19 i = if i = s then 0 else S 19 i := fun i => by
    unfold su_V
    rw [az_up_kn (by decide), az_up_kn (by decide), az_up_kn (by decide), sp_tt_19, m19]
    rfl
  have v28 : ∀ i, su_V S s p 28 i = if i = s then S 28 s + 1 else S 28 i := fun i => by
    unfold su_V
    rw [az_up_kn (by decide), az_up_kn (by decide), az_up_kn (by decide), sp_tt_28 (by omega)]
  have v32 : ∀ i, su_V S s p 32 i = if i = s then az_w (S 32 s + 1) else S 32 i := fun i => by
    unfold su_V
    rw [az_up_kn (by decide), az_up_kn (by decide), az_up_at, T 32 _ (by decide)]
  have v42 : ∀ i, su_V S s p 42 i = if i = p then 1 else S 42 i := fun i => by
    unfold su_V
    rw [az_up_kn (by decide), az_up_at, az_up_kn (by decide), T 42 _ (by decide)]
  have v102 : ∀ i, su_V S s p 102 i = if i = 0 then S 102 0 + 1 else S 102 i := fun i => by
    unfold su_V
    rw [az_up_at, az_up_kn (by decide), az_up_kn (by decide), T 102 _ (by decide)]
  have wb : 0 ≤ sp_way S s t ∧ sp_way S s t ≤ 2 ∧ (sp_way S s t = 1 → S 8 s ≠ 5 ∧ S 8 s ≠ 4) := by
    unfold sp_way
    split
    · omega
    · rename_i q
      refine ⟨r16.1, r16.2, fun e => ?_⟩
      omega
  unfold su_fl
  rcases (show sp_way S s t = 0 ∨ sp_way S s t = 1 ∨ sp_way S s t = 2 by omega) with w | w | w
  · -- set aside
    rw [if_pos w]
    have n1 : ¬ S 21 s = -1 := by omega
    generalize hV : su_V S s p = V at VK v19 v28 v32 v42 v102
    have e21 : V 21 s = S 21 s := VK 21 _ (by decide)
    have e22 : V 22 s = S 22 s := VK 22 _ (by decide)
    -- the rows
    have Z := fun (k : Nat) (i : Int) (q : k ≠ 44 ∧ k ≠ 45 ∧ k ≠ 46 ∧ k ≠ 47 ∧ k ≠ 43 ∧ k ≠ 52 ∧ k ≠ 101) => show sq_sets (sq_sets V s (S 21 s) t) s (S 22 s) t k i = V k i by
      rw [sq_sets_k q.1 q.2.1 q.2.2.1 q.2.2.2.1 q.2.2.2.2.1 q.2.2.2.2.2.1 q.2.2.2.2.2.2, sq_sets_k q.1 q.2.1 q.2.2.1 q.2.2.2.1 q.2.2.2.2.1 q.2.2.2.2.2.1 q.2.2.2.2.2.2]
    have s43 : sq_sets V s (S 21 s) t 43 0 = S 43 0 + 1 := by rw [sq_sets_43, if_neg n1, VK 43 _ (by decide)]
    have s44 : ∀ (X : az_M) (l i : Int), l ≠ -1 → sq_sets X s l t 44 i = if i = X 43 0 then l else X 44 i := fun X l i q => by
      unfold sq_sets sp_sets
      rw [if_neg q, if_neg q]
      simp (disch := decide) only [az_up_kn, az_up_at]
    have s101 : ∀ (X : az_M) (l i : Int), l ≠ -1 → sq_sets X s l t 101 i = if i = X 43 0 then X 34 l else X 101 i := fun X l i q => by
      unfold sq_sets sp_sets
      rw [if_neg q, if_neg q]
      simp (disch := decide) only [az_up_kn, az_up_at]
    have eF : sq_f0 V s t = az_up (az_up (sq_clear (sq_sets (sq_sets V s (S 21 s) t) s (S 22 s) t) s) 18 s 3) 19 s (S 17 s) := by
      unfold sq_f0
      rw [e21, e22, VK 17 _ (by decide)]
    rw [eF]
    generalize hX : sq_sets (sq_sets V s (S 21 s) t) s (S 22 s) t = X at Z
    generalize hU : az_up (az_up (sq_clear X s) 18 s 3) 19 s (S 17 s) = U
    have UX : ∀ (k : Nat) (i : Int), k ≠ 18 → k ≠ 19 → k ≠ 21 → k ≠ 22 → k ≠ 108 → k ≠ 109 → U k i = X k i := fun k i a b c d e f => by
      rw [← hU, az_up_kn b, az_up_kn a, sq_clear_k c d e f]
    have P : ∀ (k : Nat) (i : Int), k ≠ 18 ∧ k ≠ 19 ∧ k ≠ 21 ∧ k ≠ 22 ∧ k ≠ 28 ∧ k ≠ 32 ∧ k ≠ 42 ∧ k ≠ 43 ∧ k ≠ 44 ∧ k ≠ 45 ∧ k ≠ 46 ∧ k ≠ 47 ∧ k ≠ 52 ∧ k ≠ 101 ∧ k ≠ 102 ∧ k ≠ 108 ∧ k ≠ 109 → U k i = S k i := fun k i q => by
      rw [UX k i (by omega) (by omega) (by omega) (by omega) (by omega) (by omega), Z k i (by omega), VK k i (by omega)]
    have u18 : ∀ i, U 18 i = if i = s then 3 else S 18 i := fun i => by
      rw [← hU, az_up_kn (by decide), az_up_at, sq_clear_k (by decide) (by decide) (by decide) (by decide), Z 18 i (by decide), VK 18 _ (by decide)]
    have u19 : ∀ i, U 19 i = if i = s then S 17 s else S 19 i := fun i => by
      rw [← hU, az_up_at, az_up_kn (by decide), sq_clear_k (by decide) (by decide) (by decide) (by decide), Z 19 i (by decide), v19]
      split
      · rfl
      · rfl
    have u21 : ∀ i, U 21 i = if i = s then -1 else S 21 i := fun i => by
      rw [← hU, az_up_kn (by decide), az_up_kn (by decide)]
      unfold sq_clear sq_fill
      simp (disch := decide) only [az_up_kn, az_up_at]
      rw [Z 21 i (by decide), VK 21 _ (by decide)]
    have u22 : ∀ i, U 22 i = if i = s then -1 else S 22 i := fun i => by
      rw [← hU, az_up_kn (by decide), az_up_kn (by decide)]
      unfold sq_clear sq_fill
      simp (disch := decide) only [az_up_kn, az_up_at]
      rw [Z 22 i (by decide), VK 22 _ (by decide)]
    have u108 : ∀ i, U 108 i = if i = s then 0 else S 108 i := fun i => by
      rw [← hU, az_up_kn (by decide), az_up_kn (by decide)]
      unfold sq_clear sq_fill
      simp (disch := decide) only [az_up_kn, az_up_at]
      rw [Z 108 i (by decide), VK 108 _ (by decide)]
    have u109 : ∀ i, U 109 i = S 109 i := fun i => by
      rw [← hU, az_up_kn (by decide), az_up_kn (by decide)]
      unfold sq_clear sq_fill
      rw [az_up_at, az_up_at, az_up_at, az_up_kn (by decide), az_up_kn (by decide), az_up_kn (by decide), Z 109 i (by decide), VK 109 _ (by decide)]
      split
      · rename_i e; rw [e]; exact w92.symm
      · split
        · rename_i e; rw [e]; exact w91.symm
        · split
          · rename_i e; rw [e]; exact w9.symm
          · rfl
    have u28 : ∀ i, U 28 i = if i = s then S 28 s + 1 else S 28 i := fun i => by rw [UX 28 i (by decide) (by decide) (by decide) (by decide) (by decide) (by decide), Z 28 i (by decide), v28]
    have u32 : ∀ i, U 32 i = if i = s then az_w (S 32 s + 1) else S 32 i := fun i => by rw [UX 32 i (by decide) (by decide) (by decide) (by decide) (by decide) (by decide), Z 32 i (by decide), v32]
    have u42 : ∀ i, U 42 i = if i = p then 1 else S 42 i := fun i => by rw [UX 42 i (by decide) (by decide) (by decide) (by decide) (by decide) (by decide), Z 42 i (by decide), v42]
    have u102 : ∀ i, U 102 i = if i = 0 then S 102 0 + 1 else S 102 i := fun i => by rw [UX 102 i (by decide) (by decide) (by decide) (by decide) (by decide) (by decide), Z 102 i (by decide), v102]
    have iw : iW S U s := by
      refine ⟨fun k i q => ?_, fun k i e q => ?_, fun k i e q => ?_, fun i e => ?_, fun x e => ?_⟩
      · unfold wk_k at q
        exact P k i (by omega)
      · rcases q with rfl | rfl | rfl | rfl | rfl | rfl | rfl | rfl | rfl
        · rw [u18, if_neg e]
        · rw [u19, if_neg e]
        · exact P 20 i (by decide)
        · rw [u21, if_neg e]
        · rw [u22, if_neg e]
        · exact P 23 i (by decide)
        · rw [u28, if_neg e]
        · rw [u32, if_neg e]
        · rw [u108, if_neg e]
      · rcases q with rfl | rfl | rfl | rfl
        · exact P 24 i (by decide)
        · exact P 25 i (by decide)
        · exact P 26 i (by decide)
        · exact u109 i
      · exact P 27 i (by decide)
      · exact ⟨P 34 _ (by decide), P 35 _ (by decide), P 36 _ (by decide), fun j _ _ => P 37 _ (by decide)⟩
    have hl : ∀ x, x ≠ S 21 s → x ≠ S 22 s → lc (lc loc (S 21 s) 0) (S 22 s) 0 x = loc x := fun x a b => by rw [lc_n b, lc_n a]
    have hl1 : lc (lc loc (S 21 s) 0) (S 22 s) 0 (S 21 s) = 0 := by
      unfold lc
      rw [if_pos rfl]
      split <;> rfl
    have ps0 : ps_l U (lc (lc loc (S 21 s) 0) (S 22 s) 0) (S 21 s) = 0 := by unfold ps_l; rw [if_pos hl1]
    have ps1 : ps_s U s = 0 := by unfold ps_s; rw [u21, if_pos rfl, if_pos rfl]
    have hq : ∃ D', iQ U (lc (lc loc (S 21 s) 0) (S 22 s) 0) D' F := by
      by_cases e : S 22 s = -1
      · refine ⟨D, iQ_one h h1 h2 c m e iw hl ?_⟩
        rw [ps0, ps1]
        exact (ps_l_0 h.z _ f1.1 f1.2).1
      · refine ⟨D + 1, iQ_two h h1 h2 c m e iw hl ?_ lc_y⟩
        have y := f2'.resolve_left e
        have q1 := (ps_l_0 (loc := loc) h.z _ f1.1 f1.2).1
        have q2 := (ps_l_0 (loc := loc) h.z _ y.1.1 y.1.2).1
        rw [ps0, ps1]
        omega
    obtain ⟨D', hq⟩ := hq
    refine ⟨_, D', h.work h0 h1 h2 c m iw ?_ hl ?_ (fun g g1 g2 => ?_) ?_ hq⟩
    · unfold iv_l at fl ⊢
      simp (disch := decide) only [P]
      exact fl
    · rw [u18, if_pos rfl, u19, if_pos rfl]
      refine Or.inr (Or.inr (Or.inr (Or.inl ⟨rfl, ru.2, ?_, ?_, ?_, ?_, ?_, ?_, ?_, ?_⟩)))
      · rw [u21, if_pos rfl]
      · rw [u22, if_pos rfl]
      · rw [P 23 _ (by decide)]; exact w23
      · rw [P 20 _ (by decide)]; exact w20
      · rw [u108, if_pos rfl]
      · rw [u109]; exact w9
      · rw [u109]; exact w91
      · rw [u109]; exact w92
    · rw [P 27 _ (by decide)]
      exact (h.m.le s g h1 h2 g1 g2).1
    · have u43 : U 43 0 = S 43 0 + 1 + (if S 22 s = -1 then 0 else 1) := by
        rw [UX 43 _ (by decide) (by decide) (by decide) (by decide) (by decide) (by decide), ← hX, sq_sets_43, s43]
        split <;> omega
      have u44 : ∀ i, U 44 i = if S 22 s ≠ -1 ∧ i = S 43 0 + 1 then S 22 s else if i = S 43 0 then S 21 s else S 44 i := fun i => by
        rw [UX 44 _ (by decide) (by decide) (by decide) (by decide) (by decide) (by decide), ← hX]
        by_cases e : S 22 s = -1
        · have : sq_sets (sq_sets V s (S 21 s) t) s (S 22 s) t = sq_sets V s (S 21 s) t := by
            conv => lhs; unfold sq_sets
            rw [if_pos e]
            rfl
          rw [this, s44 _ _ _ n1, VK 43 _ (by decide), VK 44 _ (by decide), if_neg (show ¬ (S 22 s ≠ -1 ∧ i = S 43 0 + 1) from fun q => q.1 e)]
        · rw [s44 _ _ _ e, s43, s44 _ _ _ n1, VK 43 _ (by decide), VK 44 _ (by decide)]
          by_cases x : i = S 43 0 + 1
          · rw [if_pos x, if_pos (show S 22 s ≠ -1 ∧ i = S 43 0 + 1 from ⟨e, x⟩)]
          · rw [if_neg x, if_neg (show ¬ (S 22 s ≠ -1 ∧ i = S 43 0 + 1) from fun q => x q.2)]
      have u101 : ∀ i, U 101 i = if S 22 s ≠ -1 ∧ i = S 43 0 + 1 then S 34 (S 22 s) else if i = S 43 0 then S 34 (S 21 s) else S 101 i := fun i => by
        rw [UX 101 _ (by decide) (by decide) (by decide) (by decide) (by decide) (by decide), ← hX]
        have k34 : ∀ x, sq_sets V s (S 21 s) t 34 x = S 34 x := fun x => by rw [sq_sets_k (by decide) (by decide) (by decide) (by decide) (by decide) (by decide) (by decide), VK 34 _ (by decide)]
        by_cases e : S 22 s = -1
        · have : sq_sets (sq_sets V s (S 21 s) t) s (S 22 s) t = sq_sets V s (S 21 s) t := by
            conv => lhs; unfold sq_sets
            rw [if_pos e]
            rfl
          rw [this, s101 _ _ _ n1, VK 43 _ (by decide), VK 101 _ (by decide), VK 34 _ (by decide), if_neg (show ¬ (S 22 s ≠ -1 ∧ i = S 43 0 + 1) from fun q => q.1 e)]
        · rw [s101 _ _ _ e, s43, k34, s101 _ _ _ n1, VK 43 _ (by decide), VK 101 _ (by decide), VK 34 _ (by decide)]
          by_cases x : i = S 43 0 + 1
          · rw [if_pos x, if_pos (show S 22 s ≠ -1 ∧ i = S 43 0 + 1 from ⟨e, x⟩)]
          · rw [if_neg x, if_neg (show ¬ (S 22 s ≠ -1 ∧ i = S 43 0 + 1) from fun q => x q.2)]
      refine iP_fault h h1 h2 c hp hp1 hp2 hb (fun k i q => P k i (by omega)) u28 u42 (by rw [u102, if_pos rfl]) (fun i i1 i2 => ?_) ?_ (fun i i1 i2 => ?_)
      · rw [u32]
        split
        · exact wr
        · exact h.p.fr i i1 i2
      · rw [u43]
        split <;> omega
      · rw [u43] at i2
        rw [u44, u101, P 33 _ (by decide), P 34 _ (by decide)]
        by_cases x : S 22 s ≠ -1 ∧ i = S 43 0 + 1
        · rw [if_pos x, if_pos x]
          have y := f2'.resolve_left x.1
          exact ⟨y.1, lc_y, rfl⟩
        · rw [if_neg x, if_neg x]
          by_cases x2 : i = S 43 0
          · rw [if_pos x2, if_pos x2]
            exact ⟨f1, hl1, rfl⟩
          · rw [if_neg x2, if_neg x2]
            have lt : i < S 43 0 := by
              split at i2
              · omega
              · rename_i e
                have : ¬ i = S 43 0 + 1 := fun q => x ⟨e, q⟩
                omega
            have q := h.p.al i i1 lt
            refine ⟨q.1, ?_, q.2.2⟩
            unfold lc
            split
            · rfl
            · split
              · rfl
              · exact q.2.1
  · -- go on
    rw [if_neg (by omega), if_pos w]
    have nk := wb.2.2 w
    have s22 := f3 nk.2
    have oo : 1 ≤ sp_outsOf S s 1 := by
      unfold sp_outsOf
      rw [if_neg nk.1]
      split
      · split <;> omega
      · split <;> omega
    generalize hV : su_V S s p = V at VK v19 v28 v32 v42 v102
    have x23 : V 23 s = 0 := by rw [VK 23 _ (by decide)]; exact w23
    generalize hU : sp_f1 V s = U
    have P : ∀ (k : Nat) (i : Int), k ≠ 18 ∧ k ≠ 19 ∧ k ≠ 20 ∧ k ≠ 23 ∧ k ≠ 24 ∧ k ≠ 25 ∧ k ≠ 26 ∧ k ≠ 28 ∧ k ≠ 32 ∧ k ≠ 42 ∧ k ≠ 102 → U k i = S k i := fun k i q => by
      rw [← hU]
      unfold sp_f1
      rw [az_up_kn (by omega), az_up_kn (by omega), sp_part_k (by omega) (by omega) (by omega) (by omega), VK k i (by omega)]
    have PV : ∀ (k : Nat) (i : Int), k ≠ 18 ∧ k ≠ 20 ∧ k ≠ 23 ∧ k ≠ 24 ∧ k ≠ 25 ∧ k ≠ 26 → U k i = V k i := fun k i q => by
      rw [← hU]
      unfold sp_f1
      rw [az_up_kn (by omega), az_up_kn (by omega), sp_part_k (by omega) (by omega) (by omega) (by omega)]
    have u18 : ∀ i, U 18 i = if i = s then 2 else S 18 i := fun i => by
      rw [← hU]
      unfold sp_f1
      rw [az_up_at, az_up_kn (by decide), sp_part_k (by decide) (by decide) (by decide) (by decide), VK 18 _ (by decide)]
    have u20 : ∀ i, U 20 i = if i = s then 1 else S 20 i := fun i => by
      rw [← hU]
      unfold sp_f1
      rw [az_up_kn (by decide), az_up_at, sp_part_k (by decide) (by decide) (by decide) (by decide), VK 20 _ (by decide)]
    have u23 : ∀ i, U 23 i = if i = s then 1 else S 23 i := fun i => by
      rw [← hU]
      unfold sp_f1
      rw [az_up_kn (by decide), az_up_kn (by decide), sp_part_23, x23, VK 23 _ (by decide)]
      rfl
    have u24 : ∀ i, U 24 i = if i = 3 * s then S 34 (S 21 s) else S 24 i := fun i => by
      rw [← hU]
      unfold sp_f1
      rw [az_up_kn (by decide), az_up_kn (by decide), sp_part_24, x23, Int.add_zero, VK 24 _ (by decide), VK 21 _ (by decide), VK 34 _ (by decide)]
    have u25 : ∀ i, U 25 i = if i = 3 * s then S 35 (S 21 s) else S 25 i := fun i => by
      rw [← hU]
      unfold sp_f1
      rw [az_up_kn (by decide), az_up_kn (by decide), sp_part_25, x23, Int.add_zero, VK 25 _ (by decide), VK 21 _ (by decide), VK 35 _ (by decide)]
    have u26 : ∀ i, U 26 i = if i = 3 * s then 0 else S 26 i := fun i => by
      rw [← hU]
      unfold sp_f1
      rw [az_up_kn (by decide), az_up_kn (by decide), sp_part_26, x23, Int.add_zero, VK 26 _ (by decide)]
    have u19 : ∀ i, U 19 i = if i = s then 0 else S 19 i := fun i => by rw [PV 19 i (by decide), v19]
    have u28 : ∀ i, U 28 i = if i = s then S 28 s + 1 else S 28 i := fun i => by rw [PV 28 i (by decide), v28]
    have u32 : ∀ i, U 32 i = if i = s then az_w (S 32 s + 1) else S 32 i := fun i => by rw [PV 32 i (by decide), v32]
    have u42 : ∀ i, U 42 i = if i = p then 1 else S 42 i := fun i => by rw [PV 42 i (by decide), v42]
    have u102 : U 102 0 = S 102 0 + 1 := by rw [PV 102 _ (by decide), v102, if_pos rfl]
    have iw : iW S U s := by
      refine ⟨fun k i q => ?_, fun k i e q => ?_, fun k i e q => ?_, fun i e => ?_, fun x e => ?_⟩
      · unfold wk_k at q
        exact P k i (by omega)
      · rcases q with rfl | rfl | rfl | rfl | rfl | rfl | rfl | rfl | rfl
        · rw [u18, if_neg e]
        · rw [u19, if_neg e]
        · rw [u20, if_neg e]
        · exact P 21 i (by decide)
        · exact P 22 i (by decide)
        · rw [u23, if_neg e]
        · rw [u28, if_neg e]
        · rw [u32, if_neg e]
        · exact P 108 i (by decide)
      · rcases q with rfl | rfl | rfl | rfl
        · rw [u24, if_neg (by omega)]
        · rw [u25, if_neg (by omega)]
        · rw [u26, if_neg (by omega)]
        · exact P 109 i (by decide)
      · exact P 27 i (by decide)
      · exact ⟨P 34 _ (by decide), P 35 _ (by decide), P 36 _ (by decide), fun j _ _ => P 37 _ (by decide)⟩
    refine ⟨loc, D, h.work h0 h1 h2 c m iw ?_ (fun _ _ _ => rfl) ?_ (fun g g1 g2 => ?_) ?_ (iQ_one h h1 h2 c m s22 iw (fun _ _ _ => rfl) ?_)⟩
    · unfold iv_l at fl ⊢
      simp (disch := decide) only [P]
      exact fl
    · rw [u18, if_pos rfl, u19, if_pos rfl]
      have e21 : U 21 s = S 21 s := P 21 _ (by decide)
      refine Or.inr (Or.inr (Or.inl ⟨rfl, rfl, ⟨?_, ?_⟩, ?_, ?_, ?_, ?_, ?_, ?_, ?_, ?_, ?_, Or.inl ⟨?_, ?_, ?_⟩⟩))
      · rw [e21, P 33 _ (by decide)]; exact f1
      · rw [e21]; exact f2
      · rw [P 22 _ (by decide)]; exact s22
      · rw [u20, if_pos rfl]
      · rw [P 108 _ (by decide), P 13 _ (by decide), w108]; omega
      · rw [u26, if_pos rfl, P 108 _ (by decide), w108]
      · rw [u24, if_pos rfl, e21, P 34 _ (by decide)]
      · rw [u25, if_pos rfl, e21, P 35 _ (by decide)]
      · rw [P 109 _ (by decide)]; exact w9
      · rw [P 109 _ (by decide), P 109 _ (by decide)]; omega
      · rw [P 109 _ (by decide), P 109 _ (by decide)]
        intro q
        omega
      · rw [P 109 _ (by decide)]; exact w91
      · rw [P 109 _ (by decide)]; exact w92
      · rw [u23, if_pos rfl]
    · rw [P 27 _ (by decide)]
      exact (h.m.le s g h1 h2 g1 g2).1
    · refine iP_fault h h1 h2 c hp hp1 hp2 hb (fun k i q => P k i (by omega)) u28 u42 u102 (fun i i1 i2 => ?_) ?_ (fun i i1 i2 => ?_)
      · rw [u32]
        split
        · exact wr
        · exact h.p.fr i i1 i2
      · rw [P 43 _ (by decide)]; omega
      · rw [P 43 _ (by decide)] at i2
        rw [P 44 _ (by decide), P 33 _ (by decide), P 34 _ (by decide), P 101 _ (by decide)]
        exact h.p.al i i1 i2
    · have z9 : ps_s U s = 0 := by
        unfold ps_s
        rw [P 109 _ (by decide), P 109 _ (by decide), P 109 _ (by decide), w9, w91, w92]
        simp
      rw [z9, Int.add_zero]
      unfold ps_l
      rw [P 34 _ (by decide), P 36 _ (by decide)]
      exact Int.le_refl _
  · -- stop the line
    rw [if_neg (by omega), if_neg (by omega)]
    generalize hV' : az_up (az_up (az_up (az_up S 28 s (S 28 s + 1)) 32 s (az_w (S 32 s + 1))) 42 p 1) 102 0 (S 102 0 + 1) = V'
    have eV : su_V S s p = az_up V' 19 s (S 19 s - 1) := by
      rw [← hV']
      unfold su_V sp_tt sp_e0
      rw [az_up_kn (k1 := 28) (k := 19) (by decide), az_w_id (by omega) (by omega), az_up_cm (k1 := 19) (k2 := 28) (by decide), az_up_cm (k1 := 19) (k2 := 32) (by decide), az_up_cm (k1 := 19) (k2 := 42) (by decide), az_up_cm (k1 := 19) (k2 := 102) (by decide)]
    have PV : ∀ (k : Nat) (i : Int), k ≠ 28 ∧ k ≠ 32 ∧ k ≠ 42 ∧ k ≠ 102 → V' k i = S k i := fun k i q => by
      rw [← hV', az_up_kn q.2.2.2, az_up_kn q.2.2.1, az_up_kn q.2.1, az_up_kn q.1]
    have u28 : ∀ i, V' 28 i = if i = s then S 28 s + 1 else S 28 i := fun i => by rw [← hV', az_up_kn (by decide), az_up_kn (by decide), az_up_kn (by decide), az_up_at]
    have u32 : ∀ i, V' 32 i = if i = s then az_w (S 32 s + 1) else S 32 i := fun i => by rw [← hV', az_up_kn (by decide), az_up_kn (by decide), az_up_at, az_up_kn (by decide)]
    have u42 : ∀ i, V' 42 i = if i = p then 1 else S 42 i := fun i => by rw [← hV', az_up_kn (by decide), az_up_at, az_up_kn (by decide), az_up_kn (by decide)]
    have u102 : V' 102 0 = S 102 0 + 1 := by rw [← hV', az_up_ee]
    have iw : iW S V' s := by
      refine ⟨fun k i q => ?_, fun k i e q => ?_, fun k i e q => ?_, fun i e => PV 27 i (by decide), fun x e => ?_⟩
      · unfold wk_k at q
        exact PV k i (by omega)
      · rcases q with rfl | rfl | rfl | rfl | rfl | rfl | rfl | rfl | rfl
        · exact PV 18 i (by decide)
        · exact PV 19 i (by decide)
        · exact PV 20 i (by decide)
        · exact PV 21 i (by decide)
        · exact PV 22 i (by decide)
        · exact PV 23 i (by decide)
        · rw [u28, if_neg e]
        · rw [u32, if_neg e]
        · exact PV 108 i (by decide)
      · rcases q with rfl | rfl | rfl | rfl
        · exact PV 24 i (by decide)
        · exact PV 25 i (by decide)
        · exact PV 26 i (by decide)
        · exact PV 109 i (by decide)
      · exact ⟨PV 34 _ (by decide), PV 35 _ (by decide), PV 36 _ (by decide), fun j _ _ => PV 37 _ (by decide)⟩
    have iv : Inv V' loc D F := by
      refine h.work h0 h1 h2 c m iw ?_ (fun _ _ _ => rfl) ?_ (fun g g1 g2 => ?_) ?_ (iQ_cg h.q (fun k i q => PV k i (by omega)))
      · unfold iv_l at fl ⊢
        simp (disch := decide) only [PV]
        exact fl
      · rw [PV 18 _ (by decide), PV 19 _ (by decide)]
        exact iv_md_cg (h.m.md s h1 h2 c) (fun k i q => PV k i (by omega))
      · rw [PV 27 _ (by decide)]
        exact (h.m.le s g h1 h2 g1 g2).1
      · refine iP_fault h h1 h2 c hp hp1 hp2 hb (fun k i q => PV k i (by omega)) u28 u42 u102 (fun i i1 i2 => ?_) ?_ (fun i i1 i2 => ?_)
        · rw [u32]
          split
          · exact wr
          · exact h.p.fr i i1 i2
        · rw [PV 43 _ (by decide)]; omega
        · rw [PV 43 _ (by decide)] at i2
          rw [PV 44 _ (by decide), PV 33 _ (by decide), PV 34 _ (by decide), PV 101 _ (by decide)]
          exact h.p.al i i1 i2
    obtain ⟨loc', iv'⟩ := iv.stops (by rw [PV 0 _ (by decide)]; exact h0)
    refine ⟨loc', D, ?_⟩
    have e : sp_stops (su_V S s p) = sp_stops V' := by
      rw [eV]
      exact sp_stF_19 12 0 V' (by rw [PV 7 _ (by decide)]; exact c) h1 (by omega)
    rw [e]
    exact iv'
end IvU
