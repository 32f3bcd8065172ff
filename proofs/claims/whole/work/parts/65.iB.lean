-- deps: 30.mK 31.mL 34.mN 37.mQ 38.mR 43.cls 44.sta 44.stb 44.stc 44.std 45.cA 46.cB 47.cC 48.cD 50.cF 54.cI 58.cM 43.raw 51.cG 53.cH 56.cK 57.cL 52.cG2 64.iA 34.mN2 34.mN3 35.mO 36.mP 33.mM2
/-! ===== sums ===== -/
theorem sm_cg {g h : Int → Int} : ∀ n : Nat, (∀ j : Int, 0 ≤ j → j < n → g j = h j) → sp_sum g n = sp_sum h n
  | 0, _ => rfl
  | n + 1, q => by
    show sp_sum g n + g n = sp_sum h n + h n
    rw [sm_cg n (fun j a b => q j a (by omega)), q n (by omega) (by omega)]
theorem sm_0 {g : Int → Int} : ∀ n : Nat, (∀ j : Int, 0 ≤ j → j < n → 0 ≤ g j) → 0 ≤ sp_sum g n
  | 0, _ => Int.le_refl 0
  | n + 1, q => by
    have := sm_0 n (fun j a b => q j a (by omega))
    have := q n (by omega) (by omega)
    show 0 ≤ sp_sum g n + g n
    omega
/-- a term changed -/
theorem sm_up {g h : Int → Int} (a : Int) : ∀ n : Nat, 0 ≤ a → a < n → (∀ j : Int, 0 ≤ j → j < n → j ≠ a → h j = g j) → sp_sum h n = sp_sum g n - g a + h a
  | 0, h1, h2, _ => by omega
  | n + 1, h1, h2, q => by
    show sp_sum h n + h n = sp_sum g n + g n - g a + h a
    by_cases e : a = n
    · rw [e, sm_cg (g := h) (h := g) n (fun j a1 b1 => q j a1 (by omega) (by omega))]
      omega
    · rw [sm_up a n h1 (by omega) (fun j a1 b1 c1 => q j a1 (by omega) c1), q n (by omega) (by omega) (by omega)]
      omega
theorem sm_ge {g : Int → Int} (a : Int) (n : Nat) (h1 : 0 ≤ a) (h2 : a < n) (h3 : ∀ j : Int, 0 ≤ j → j < n → 0 ≤ g j) : g a ≤ sp_sum g n := by
  have e := sm_up (g := g) (h := fun j => if j = a then 0 else g j) a n h1 h2 (fun j _ _ c => by rw [if_neg c])
  rw [if_pos rfl] at e
  have := sm_0 (g := fun j => if j = a then 0 else g j) n (fun j a1 b1 => by
    split
    · omega
    · exact h3 j a1 b1)
  omega
theorem sm_ge2 {g : Int → Int} (a b : Int) (n : Nat) (h1 : 0 ≤ a) (h2 : a < n) (h1' : 0 ≤ b) (h2' : b < n) (hab : a ≠ b) (h3 : ∀ j : Int, 0 ≤ j → j < n → 0 ≤ g j) : g a + g b ≤ sp_sum g n := by
  have e := sm_up (g := g) (h := fun j => if j = a then 0 else g j) a n h1 h2 (fun j _ _ c => by rw [if_neg c])
  rw [if_pos rfl] at e
  have := sm_ge (g := fun j => if j = a then 0 else g j) b n h1' h2' (fun j a1 b1 => by
    split
    · omega
    · exact h3 j a1 b1)
  rw [if_neg (fun q => hab q.symm)] at this
  omega
/-! ===== how many grams there can be ===== -/
theorem ps_b_0 : ∀ D : Nat, 100000000 ≤ ps_b D
  | 0 => Int.le_refl _
  | D + 1 => by
    have := ps_b_0 D
    show 100000000 ≤ ps_b D + ps_b D / 1000 + 1
    omega
theorem ps_b_m (D : Nat) : ∀ k : Nat, ps_b D ≤ ps_b (D + k)
  | 0 => Int.le_refl _
  | k + 1 => by
    have := ps_b_m D k
    have := ps_b_0 (D + k)
    show ps_b D ≤ ps_b (D + k) + ps_b (D + k) / 1000 + 1
    omega
theorem ps_b_1500 : ps_b 1500 * 512 < 500 * 1073741824 := by decide +kernel
theorem ps_b_lt {D F : Nat} (hD : D ≤ 1500) (hF : F ≤ 512) : ps_b D * F < 500 * 1073741824 := by
  have h1 := ps_b_m D (1500 - D)
  rw [show D + (1500 - D) = 1500 by omega] at h1
  have h0 := ps_b_0 D
  have h2 : ps_b D * F ≤ ps_b D * 512 := Int.mul_le_mul_of_nonneg_left (by omega) (by omega)
  have h3 : ps_b D * 512 ≤ ps_b 1500 * 512 := Int.mul_le_mul_of_nonneg_right h1 (by omega)
  have := ps_b_1500
  omega
theorem mx_b (d : Int) (h : 0 ≤ d) : 500 ≤ mx d ∧ mx d ≤ 1000 := by
  unfold mx
  split <;> omega
section IvB
variable {S : az_M} {loc : Int → Int} {D F : Nat} {s : Int}
theorem ps_l_0 (hz : iZ S) (l : Int) (h1 : 0 ≤ l) (h2 : l < S 33 0) : 0 ≤ ps_l S loc l ∧ (loc l ≠ 0 → 500 * S 34 l ≤ ps_l S loc l) := by
  have q := hz.lo l h1 h2
  have m := mx_b (S 36 l) q.2.2.1.1
  have g1 := q.1
  unfold ps_l
  split
  · rename_i c
    exact ⟨Int.le_refl 0, fun d => absurd c d⟩
  · have : S 34 l * 500 ≤ S 34 l * mx (S 36 l) := Int.mul_le_mul_of_nonneg_left m.1 (by omega)
    omega
theorem ps_n_0 (l : Int) : 0 ≤ ps_n loc l := by
  unfold ps_n
  split <;> omega
/-- what a stage has beside its lots -/
theorem iv_109 (h : iM S loc) (s : Int) (h1 : 0 ≤ s) (h2 : s < 12) (h7 : 0 ≤ S 7 s ∧ S 7 s ≤ 1) : S 109 (3 * s) = 0 ∧ 0 ≤ S 109 (3 * s + 1) ∧ 0 ≤ S 109 (3 * s + 2) := by
  by_cases c : S 7 s = 1
  · have e : iv_e S s → S 109 (3 * s) = 0 ∧ 0 ≤ S 109 (3 * s + 1) ∧ 0 ≤ S 109 (3 * s + 2) := fun q => by unfold iv_e at q; omega
    have w : iv_pt S loc s → S 109 (3 * s) = 0 ∧ 0 ≤ S 109 (3 * s + 1) ∧ 0 ≤ S 109 (3 * s + 2) := fun q => by unfold iv_pt at q; exact ⟨q.2.2.2.2.2.2.2.1, q.2.2.2.2.2.2.2.2.1⟩
    rcases h.md s h1 h2 c with ⟨-, -, q⟩ | ⟨-, -, q⟩ | ⟨-, -, q⟩ | ⟨-, -, q⟩ | ⟨-, -, q⟩
    · exact e q
    · unfold iv_wk at q
      obtain ⟨-, -, -, -, -, -, q1, q2, q3, -⟩ := q
      omega
    · exact w q
    · exact e q
    · exact q.elim e w
  · have q := (h.mu s h1 h2 (by omega)).2.2.1
    unfold iv_e at q
    omega
theorem iv_first (h : iM S loc) (s : Int) (h1 : 0 ≤ s) (h2 : s < 12) (h7 : 0 ≤ S 7 s ∧ S 7 s ≤ 1) : S 21 s = -1 ∨ ((0 ≤ S 21 s ∧ S 21 s < S 33 0) ∧ loc (S 21 s) = 20 + s) := by
  by_cases c : S 7 s = 1
  · rcases h.md s h1 h2 c with ⟨-, -, q⟩ | ⟨-, -, q⟩ | ⟨-, -, q⟩ | ⟨-, -, q⟩ | ⟨-, -, q⟩
    · exact Or.inl q.1
    · exact Or.inr q.1
    · exact Or.inr q.1
    · exact Or.inl q.1
    · rcases q with q | q
      · exact Or.inl q.1
      · exact Or.inr q.1
  · exact Or.inl (h.mu s h1 h2 (by omega)).2.2.1.1
theorem iv_second (h : iM S loc) (s : Int) (h1 : 0 ≤ s) (h2 : s < 12) (h7 : 0 ≤ S 7 s ∧ S 7 s ≤ 1) : S 22 s = -1 ∨ ((0 ≤ S 22 s ∧ S 22 s < S 33 0) ∧ loc (S 22 s) = 20 + s ∧ S 21 s ≠ S 22 s ∧ S 18 s = 1 ∧ S 8 s = 4) := by
  by_cases c : S 7 s = 1
  · rcases h.md s h1 h2 c with ⟨-, -, q⟩ | ⟨m, -, q⟩ | ⟨-, -, q⟩ | ⟨-, -, q⟩ | ⟨-, -, q⟩
    · exact Or.inl q.2.1
    · by_cases d : S 8 s = 4
      · have w := q.2.2.1 d
        exact Or.inr ⟨w.1, w.2.1, w.2.2, m, d⟩
      · exact Or.inl (q.2.1 d)
    · exact Or.inl q.2.1
    · exact Or.inl q.2.1
    · rcases q with q | q
      · exact Or.inl q.2.1
      · exact Or.inl q.2.1
  · exact Or.inl (h.mu s h1 h2 (by omega)).2.2.1.2.1
theorem ps_s_0 (h : Inv S loc D F) (s : Int) (h1 : 0 ≤ s) (h2 : s < 12) : 0 ≤ ps_s S s ∧ (S 21 s ≠ -1 → 500 * (S 109 (3 * s) + S 109 (3 * s + 1) + S 109 (3 * s + 2)) ≤ ps_s S s) := by
  have q := iv_109 h.m s h1 h2 (h.l.s7 s h1 h2)
  have w := iv_first h.m s h1 h2 (h.l.s7 s h1 h2)
  unfold ps_s
  split
  · rename_i c
    exact ⟨Int.le_refl 0, fun d => absurd c d⟩
  · rename_i c
    have w := w.resolve_left c
    have m := mx_b (S 36 (S 21 s)) (h.z.lo _ w.1.1 w.1.2).2.2.1.1
    have : (S 109 (3 * s) + S 109 (3 * s + 1) + S 109 (3 * s + 2)) * 500 ≤ (S 109 (3 * s) + S 109 (3 * s + 1) + S 109 (3 * s + 2)) * mx (S 36 (S 21 s)) := Int.mul_le_mul_of_nonneg_left m.1 (by omega)
    omega
theorem ps_all (h : Inv S loc D F) : sp_sum (ps_l S loc) (S 33 0).toNat + sp_sum (ps_s S) 12 < 500 * 1073741824 ∧ 0 ≤ sp_sum (ps_l S loc) (S 33 0).toNat ∧ 0 ≤ sp_sum (ps_s S) 12 ∧ (D : Int) ≤ 1500 := by
  have g := h.a.g33
  have n0 := sm_0 (g := ps_n loc) (S 33 0).toNat (fun j _ _ => ps_n_0 j)
  have q2 := h.q.q2
  have q3 := h.q.q3
  have := ps_b_lt (D := D) (F := F) (by omega) (by omega)
  have := h.q.q1
  exact ⟨by omega, sm_0 _ (fun j a b => (ps_l_0 h.z j a (by omega)).1), sm_0 _ (fun j a b => (ps_s_0 h j a (by omega)).1), by omega⟩
/-- a lot that is anywhere -/
theorem Inv.lot (h : Inv S loc D F) {l : Int} (h1 : 0 ≤ l) (h2 : l < S 33 0) (h3 : loc l ≠ 0) : iv_lot S l := by
  have p := ps_all h
  have e := (ps_l_0 h.z l h1 h2).2 h3
  have q := h.z.lo l h1 h2
  have := sm_ge (g := ps_l S loc) l (S 33 0).toNat h1 (by omega) (fun j a b => (ps_l_0 h.z j a (by omega)).1)
  unfold iv_l at q
  exact ⟨⟨h1, h2⟩, by omega, q.2.1, q.2.2.1, by omega, by omega, by omega, by omega⟩
theorem Inv.lot2 (h : Inv S loc D F) {l m : Int} (h1 : 0 ≤ l) (h2 : l < S 33 0) (h3 : loc l ≠ 0) (h1' : 0 ≤ m) (h2' : m < S 33 0) (h3' : loc m ≠ 0) (hn : l ≠ m) : S 34 l + S 34 m < 1073741824 := by
  have p := ps_all h
  have e := (ps_l_0 h.z l h1 h2).2 h3
  have e' := (ps_l_0 h.z m h1' h2').2 h3'
  have := sm_ge2 (g := ps_l S loc) l m (S 33 0).toNat h1 (by omega) h1' (by omega) hn (fun j a b => (ps_l_0 h.z j a (by omega)).1)
  omega
theorem Inv.n109 (h : Inv S loc D F) (s : Int) (h1 : 0 ≤ s) (h2 : s < 12) (h3 : S 21 s ≠ -1) : S 109 (3 * s + 1) < 1073741824 ∧ S 109 (3 * s + 2) < 1073741824 := by
  have p := ps_all h
  have e := (ps_s_0 h s h1 h2).2 h3
  have q := iv_109 h.m s h1 h2 (h.l.s7 s h1 h2)
  have := sm_ge (g := ps_s S) s 12 h1 (by omega) (fun j a b => (ps_s_0 h j a (by omega)).1)
  omega
theorem Inv.bins (h : Inv S loc D F) : iv_bins S := fun b b1 b2 => by
  have q1 := h.b.b3 b b1 b2
  have q2 := (h.b.b4 b b1 b2).1
  omega
theorem Inv.ld (h : Inv S loc D F) (s : Int) (h1 : 0 ≤ s) (h2 : s < 12) : iv_ld S s := by
  have h7 := h.l.s7 s h1 h2
  have g := h.a.g33
  have q := iv_109 h.m s h1 h2 h7
  have f := iv_first h.m s h1 h2 h7
  have f2 := iv_second h.m s h1 h2 h7
  have r : 0 ≤ S 108 s ∧ S 108 s ≤ 2 := by
    have e : iv_e S s → 0 ≤ S 108 s ∧ S 108 s ≤ 2 := fun q => by unfold iv_e at q; omega
    by_cases c : S 7 s = 1
    · have o := (h.l.li s h1 h2 c).2.1
      have w : iv_pt S loc s → 0 ≤ S 108 s ∧ S 108 s ≤ 2 := fun q => by
        have := q.2.2.2.1
        omega
      rcases h.m.md s h1 h2 c with ⟨-, -, q⟩ | ⟨-, -, q⟩ | ⟨-, -, q⟩ | ⟨-, -, q⟩ | ⟨-, -, q⟩
      · exact e q
      · unfold iv_wk at q
        obtain ⟨-, -, -, -, -, q, -⟩ := q
        omega
      · exact w q
      · exact e q
      · exact q.elim e w
    · exact e (h.m.mu s h1 h2 (by omega)).2.2.1
  have b : S 109 (3 * s + 1) < 2147483648 ∧ S 109 (3 * s + 2) < 2147483648 := by
    by_cases c : S 21 s = -1
    · have e : iv_e S s → S 109 (3 * s + 1) < 2147483648 ∧ S 109 (3 * s + 2) < 2147483648 := fun q => by unfold iv_e at q; omega
      by_cases d : S 7 s = 1
      · rcases h.m.md s h1 h2 d with ⟨-, -, q⟩ | ⟨-, -, q⟩ | ⟨-, -, q⟩ | ⟨-, -, q⟩ | ⟨-, -, q⟩
        · exact e q
        · have := q.1.1; omega
        · have := q.1.1; omega
        · exact e q
        · rcases q with q | q
          · exact e q
          · have := q.1.1; omega
      · exact e (h.m.mu s h1 h2 (by omega)).2.2.1
    · have := h.n109 s h1 h2 c
      omega
  refine ⟨by omega, by omega, r, by omega, by omega, by omega⟩
end IvB
