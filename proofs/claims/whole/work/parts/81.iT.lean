-- deps: 30.mK 31.mL 43.cls 44.sta 44.stb 44.stc 44.std 45.cA 46.cB 47.cC 48.cD 50.cF 51.cG 53.cH 54.cI 55.cJ 60.cO 33.mM2 34.mN 36.mP 37.mQ 43.raw 34.mN2 34.mN3 35.mO 32.mM
/-! ===== stopping: what commutes ===== -/
section IvT
variable {S : az_M} {s t b l : Int}
def bk (S : az_M) (b l : Int) : az_M := if l = -1 then S else sp_backs S b l
theorem sp_gb_bk : sp_gb S s = az_up (az_up (bk (bk S (S 12 (2 * s)) (S 21 s)) (S 12 (2 * s + 1)) (S 22 s)) 21 s (-1)) 22 s (-1) := by
  unfold sp_gb sp_gb2 sp_gb1 bk
  rfl
theorem sp_backs_5r {i : Int} : sp_backs S b l 5 i = if i = 40 * b then l else if 40 * b < i ∧ i ≤ 40 * b + S 4 b then S 5 (i - 1) else S 5 i := by
  unfold sp_backs sp_su
  rw [az_up_kn (by decide), az_up_at]
  split
  · rfl
  · by_cases c : 40 * b < i ∧ i ≤ 40 * b + S 4 b
    · rw [if_pos ⟨rfl, c⟩, if_pos c]
    · rw [if_neg (fun q => c q.2), if_neg c]
theorem sp_backs_up {k : Nat} {i v : Int} (h1 : k ≠ 4) (h2 : k ≠ 5) : sp_backs (az_up S k i v) b l = az_up (sp_backs S b l) k i v := by
  funext k1 j
  by_cases e5 : k1 = 5
  · subst e5
    rw [az_up_kn (fun q => h2 q.symm), sp_backs_5r, sp_backs_5r, az_up_kn (fun q => h1 q.symm), az_up_kn (fun q => h2 q.symm), az_up_kn (fun q => h2 q.symm)]
  · by_cases e4 : k1 = 4
    · subst e4
      rw [az_up_kn (fun q => h1 q.symm), sp_backs_4, sp_backs_4, az_up_kn (fun q => h1 q.symm), az_up_kn (fun q => h1 q.symm)]
    · rw [sp_backs_k e5 e4, az_up_ap, az_up_ap, sp_backs_k e5 e4]
theorem bk_up {k : Nat} {i v : Int} (h1 : k ≠ 4) (h2 : k ≠ 5) : bk (az_up S k i v) b l = az_up (bk S b l) k i v := by
  unfold bk
  split
  · rfl
  · exact sp_backs_up h1 h2
theorem bk_k {k : Nat} {i : Int} (h1 : k ≠ 5) (h2 : k ≠ 4) : bk S b l k i = S k i := by
  unfold bk
  split
  · rfl
  · exact sp_backs_k h1 h2
theorem bk_cm {c m : Int} (h : l ≠ -1 → m ≠ -1 → b ≠ c ∧ (0 ≤ S 4 b ∧ S 4 b ≤ 30) ∧ (0 ≤ S 4 c ∧ S 4 c ≤ 30)) : bk (bk S b l) c m = bk (bk S c m) b l := by
  unfold bk
  by_cases e1 : l = -1
  · rw [if_pos e1, if_pos e1]
  · by_cases e2 : m = -1
    · rw [if_pos e2, if_pos e2]
    · rw [if_neg e1, if_neg e2, if_neg e1, if_neg e2]
      obtain ⟨ne, qb, qc⟩ := h e1 e2
      funext k j
      by_cases e5 : k = 5
      · subst e5
        have nc : ¬ c = b := fun q => ne q.symm
        rw [sp_backs_5r, sp_backs_5r (S := sp_backs S c m), sp_backs_4, sp_backs_4, if_neg nc, if_neg ne, sp_backs_5r, sp_backs_5r, sp_backs_5r, sp_backs_5r]
        repeat' split
        all_goals first | rfl | omega
      · by_cases e4 : k = 4
        · subst e4
          rw [sp_backs_4, sp_backs_4, sp_backs_4, sp_backs_4, sp_backs_4, sp_backs_4]
          by_cases x : j = c
          · rw [if_pos x, if_neg (show ¬ j = b by omega), if_neg (show ¬ c = b by omega), if_pos x]
          · rw [if_neg x]
            by_cases y : j = b
            · rw [if_pos y, if_pos y, if_neg ne]
            · rw [if_neg y, if_neg y, if_neg x]
        · rw [sp_backs_k e5 e4, sp_backs_k e5 e4, sp_backs_k e5 e4, sp_backs_k e5 e4]
theorem sp_gb_up {k : Nat} {i v : Int} (h1 : k ≠ 4) (h2 : k ≠ 5) (h3 : k ≠ 12) (h4 : k ≠ 21) (h5 : k ≠ 22) : sp_gb (az_up S k i v) t = az_up (sp_gb S t) k i v := by
  rw [sp_gb_bk, sp_gb_bk, az_up_kn (fun q => h3 q.symm), az_up_kn (fun q => h3 q.symm), az_up_kn (fun q => h4 q.symm), az_up_kn (fun q => h5 q.symm), bk_up h1 h2, bk_up h1 h2, az_up_cm (k1 := k) h4, az_up_cm (k1 := k) h5]
theorem sp_st1_up {k : Nat} {i v : Int} (h1 : k ≠ 4) (h2 : k ≠ 5) (h3 : k ≠ 12) (h4 : k ≠ 21) (h5 : k ≠ 22) (h6 : k ≠ 7) (h7 : k ≠ 18) (h8 : k ≠ 19 ∨ i ≠ t) : sp_st1 (az_up S k i v) t = az_up (sp_st1 S t) k i v := by
  unfold sp_st1
  rw [az_up_kn (fun q => h6 q.symm), az_up_kn (fun q => h7 q.symm)]
  split
  · rfl
  · have c19 : ∀ X : az_M, az_up (az_up X k i v) 19 t 0 = az_up (az_up X 19 t 0) k i v := fun X => by
      by_cases e : k = 19
      · subst e
        have n : i ≠ t := by omega
        funext k1 j
        rw [az_up_ap, az_up_ap, az_up_ap, az_up_ap]
        split
        · split
          · rename_i q; rw [if_neg (by omega)]
          · rfl
        · rfl
      · exact az_up_cm e
    split
    · rw [sp_gb_up h1 h2 h3 h4 h5, az_up_cm (k1 := k) h7, c19]
    · rw [az_up_cm (k1 := k) h7, c19]
theorem sp_stF_up {k : Nat} {i v : Int} (h1 : k ≠ 4) (h2 : k ≠ 5) (h3 : k ≠ 12) (h4 : k ≠ 21) (h5 : k ≠ 22) (h6 : k ≠ 7) (h7 : k ≠ 18) (h8 : k ≠ 19) : ∀ (m : Nat) (j : Int) (S : az_M), sp_stF m j (az_up S k i v) = az_up (sp_stF m j S) k i v
  | 0, _, _ => rfl
  | m + 1, j, S => by
    show sp_stF m (j + 1) (sp_st1 (az_up S k i v) j) = az_up (sp_stF m (j + 1) (sp_st1 S j)) k i v
    rw [sp_st1_up h1 h2 h3 h4 h5 h6 h7 (Or.inl h8)]
    exact sp_stF_up h1 h2 h3 h4 h5 h6 h7 h8 m (j + 1) _
theorem sp_st1_7 {j : Int} : sp_st1 S t 7 j = S 7 j := by
  unfold sp_st1
  split
  · rfl
  · rw [az_up_kn (by decide), az_up_kn (by decide)]
    split
    · exact sp_gb_k (by decide) (by decide) (by decide) (by decide)
    · rfl
/-- what a stage has to go is forgotten -/
theorem sp_stF_19 {v : Int} : ∀ (m : Nat) (j : Int) (S : az_M), S 7 s = 1 → j ≤ s → s < j + m → sp_stF m j (az_up S 19 s v) = sp_stF m j S
  | 0, _, _, _, h1, h2 => by omega
  | m + 1, j, S, h7, h1, h2 => by
    show sp_stF m (j + 1) (sp_st1 (az_up S 19 s v) j) = sp_stF m (j + 1) (sp_st1 S j)
    by_cases e : j = s
    · subst e
      have q : sp_st1 (az_up S 19 j v) j = sp_st1 S j := by
        unfold sp_st1
        rw [if_neg (show ¬ az_up S 19 j v 7 j = 0 by rw [az_up_kn (by decide)]; omega), if_neg (show ¬ S 7 j = 0 by omega), az_up_kn (k1 := 18) (by decide)]
        split
        · rw [sp_gb_up (by decide) (by decide) (by decide) (by decide) (by decide), az_up_cm (k1 := 19) (k2 := 18) (by decide), az_up_up]
        · rw [az_up_cm (k1 := 19) (k2 := 18) (by decide), az_up_up]
      rw [q]
    · rw [sp_st1_up (by decide) (by decide) (by decide) (by decide) (by decide) (by decide) (by decide) (Or.inr (fun q => e q.symm))]
      exact sp_stF_19 m (j + 1) _ (by rw [sp_st1_7]; exact h7) (by omega) (by omega)
/-- giving back twice is giving back once -/
theorem sp_gb_gb (h : s ≠ t) (hst : ∀ a b, 0 ≤ a → a ≤ 1 → 0 ≤ b → b ≤ 1 → (if a = 0 then S 21 s else S 22 s) ≠ -1 → (if b = 0 then S 21 t else S 22 t) ≠ -1 → S 12 (2 * s + a) ≠ S 12 (2 * t + b)) (p0 : S 21 s ≠ -1 → 0 ≤ S 4 (S 12 (2 * s)) ∧ S 4 (S 12 (2 * s)) ≤ 26) (p1 : S 22 s ≠ -1 → 0 ≤ S 4 (S 12 (2 * s + 1)) ∧ S 4 (S 12 (2 * s + 1)) ≤ 26) (p2 : S 21 t ≠ -1 → 0 ≤ S 4 (S 12 (2 * t)) ∧ S 4 (S 12 (2 * t)) ≤ 26) (p3 : S 22 t ≠ -1 → 0 ≤ S 4 (S 12 (2 * t + 1)) ∧ S 4 (S 12 (2 * t + 1)) ≤ 26) : sp_gb (sp_gb S s) t = sp_gb (sp_gb S t) s := by
  have hts : t ≠ s := fun q => h q.symm
  have e00 := hst 0 0 (by decide) (by decide) (by decide) (by decide)
  have e01 := hst 0 1 (by decide) (by decide) (by decide) (by decide)
  have e10 := hst 1 0 (by decide) (by decide) (by decide) (by decide)
  have e11 := hst 1 1 (by decide) (by decide) (by decide) (by decide)
  simp only [Int.add_zero, if_true, Int.reduceEq, if_false] at e00 e01 e10 e11
  have k12 : ∀ j, sp_gb S s 12 j = S 12 j := fun j => sp_gb_k (by decide) (by decide) (by decide) (by decide)
  have k12' : ∀ j, sp_gb S t 12 j = S 12 j := fun j => sp_gb_k (by decide) (by decide) (by decide) (by decide)
  have b4 : ∀ (X : az_M) (b l x : Int), bk X b l 4 x = X 4 x ∨ bk X b l 4 x = X 4 x + 1 := fun X b l x => by
    unfold bk
    split
    · exact Or.inl rfl
    · rw [sp_backs_4]
      split
      · rename_i q; rw [q]; exact Or.inr rfl
      · exact Or.inl rfl
  rw [sp_gb_bk (S := sp_gb S s), sp_gb_bk (S := sp_gb S t), k12, k12, k12', k12', sp_gb_21, sp_gb_22, sp_gb_21, sp_gb_22, if_neg hts, if_neg hts, if_neg h, if_neg h, sp_gb_bk (S := S) (s := s), sp_gb_bk (S := S) (s := t)]
  simp (disch := decide) only [bk_up]
  have swap : bk (bk (bk (bk S (S 12 (2 * s)) (S 21 s)) (S 12 (2 * s + 1)) (S 22 s)) (S 12 (2 * t)) (S 21 t)) (S 12 (2 * t + 1)) (S 22 t) = bk (bk (bk (bk S (S 12 (2 * t)) (S 21 t)) (S 12 (2 * t + 1)) (S 22 t)) (S 12 (2 * s)) (S 21 s)) (S 12 (2 * s + 1)) (S 22 s) := by
    have bd : ∀ (X : az_M) (n x : Int), 0 ≤ n → n ≤ 3 → (∀ x, S 4 x ≤ X 4 x ∧ X 4 x ≤ S 4 x + n) → (0 ≤ S 4 x ∧ S 4 x ≤ 26) → 0 ≤ X 4 x ∧ X 4 x ≤ 30 := fun X n x n1 n2 hX hx => by
      have := hX x
      omega
    have gr : ∀ (X : az_M) (n b l : Int), (∀ x, S 4 x ≤ X 4 x ∧ X 4 x ≤ S 4 x + n) → ∀ x, S 4 x ≤ bk X b l 4 x ∧ bk X b l 4 x ≤ S 4 x + (n + 1) := fun X n b l hX x => by
      have := hX x
      rcases b4 X b l x with q | q <;> rw [q] <;> omega
    have g0 : ∀ x, S 4 x ≤ S 4 x ∧ S 4 x ≤ S 4 x + 0 := fun x => by omega
    have gA := gr S 0 (S 12 (2 * s)) (S 21 s) g0
    have gC := gr S 0 (S 12 (2 * t)) (S 21 t) g0
    have gAC := gr _ _ (S 12 (2 * t)) (S 21 t) gA
    have gCA := gr _ _ (S 12 (2 * s)) (S 21 s) gC
    rw [bk_cm (S := bk S (S 12 (2 * s)) (S 21 s)) (b := S 12 (2 * s + 1)) (l := S 22 s) (c := S 12 (2 * t)) (m := S 21 t) (fun x y => ⟨e10 x y, bd _ _ _ (by decide) (by decide) gA (p1 x), bd _ _ _ (by decide) (by decide) gA (p2 y)⟩)]
    rw [bk_cm (S := S) (b := S 12 (2 * s)) (l := S 21 s) (c := S 12 (2 * t)) (m := S 21 t) (fun x y => ⟨e00 x y, bd S 0 _ (by decide) (by decide) g0 (p0 x), bd S 0 _ (by decide) (by decide) g0 (p2 y)⟩)]
    rw [bk_cm (S := bk (bk S (S 12 (2 * t)) (S 21 t)) (S 12 (2 * s)) (S 21 s)) (b := S 12 (2 * s + 1)) (l := S 22 s) (c := S 12 (2 * t + 1)) (m := S 22 t) (fun x y => ⟨e11 x y, bd _ _ _ (by decide) (by decide) gCA (p1 x), bd _ _ _ (by decide) (by decide) gCA (p3 y)⟩)]
    rw [bk_cm (S := bk S (S 12 (2 * t)) (S 21 t)) (b := S 12 (2 * s)) (l := S 21 s) (c := S 12 (2 * t + 1)) (m := S 22 t) (fun x y => ⟨e01 x y, bd _ _ _ (by decide) (by decide) gC (p0 x), bd _ _ _ (by decide) (by decide) gC (p3 y)⟩)]
  rw [swap]
  generalize bk (bk (bk (bk S (S 12 (2 * t)) (S 21 t)) (S 12 (2 * t + 1)) (S 22 t)) (S 12 (2 * s)) (S 21 s)) (S 12 (2 * s + 1)) (S 22 s) = X
  funext k j
  simp only [az_up_ap]
  by_cases a : k = 22
  · subst a
    simp only [Nat.reduceEqDiff, if_true, if_false]
    by_cases x : j = t
    · by_cases y : j = s <;> simp [x, y]
    · by_cases y : j = s <;> simp [x, y]
  · by_cases a' : k = 21
    · subst a'
      simp only [Nat.reduceEqDiff, if_true, if_false]
      by_cases x : j = t
      · by_cases y : j = s <;> simp [x, y]
      · by_cases y : j = s <;> simp [x, y]
    · simp only [a, a', if_false]
/-- stopping takes back what one stage gave back already -/
theorem sp_gb_id : sp_gb (sp_gb S s) s = sp_gb S s := by
  have e21 : sp_gb S s 21 s = -1 := by rw [sp_gb_21, if_pos rfl]
  have e22 : sp_gb S s 22 s = -1 := by rw [sp_gb_22, if_pos rfl]
  rw [sp_gb_bk (S := sp_gb S s)]
  unfold bk
  rw [if_pos e21, if_pos e22, az_up_id (S := sp_gb S s) e21, az_up_id (S := sp_gb S s) e22]
theorem sp_stF_gb : ∀ (m : Nat) (j : Int) (S : az_M), iv_st S j → 0 ≤ j → j + m ≤ 12 → S 7 s = 1 → S 18 s = 1 → j ≤ s → s < j + m → sp_stF m j (sp_gb S s) = sp_stF m j S
  | 0, _, _, _, _, _, _, _, h1, h2 => by omega
  | m + 1, j, S, hst, h0, hm, h7, h18, h1, h2 => by
    show sp_stF m (j + 1) (sp_st1 (sp_gb S s) j) = sp_stF m (j + 1) (sp_st1 S j)
    have k : ∀ (k : Nat) (i : Int), k ≠ 5 → k ≠ 4 → k ≠ 21 → k ≠ 22 → sp_gb S s k i = S k i := fun k i a b c d => sp_gb_k a b c d
    by_cases e : j = s
    · have q : sp_st1 (sp_gb S s) j = sp_st1 S j := by
        subst e
        unfold sp_st1
        rw [k 7 _ (by decide) (by decide) (by decide) (by decide), k 18 _ (by decide) (by decide) (by decide) (by decide), if_pos h18, if_pos h18, sp_gb_id, if_neg (show ¬ S 7 j = 0 by omega), if_neg (show ¬ S 7 j = 0 by omega)]
      rw [q]
    · have gs := hst.2.2.2 s (by omega) (by omega) h7 h18
      have q : sp_st1 (sp_gb S s) j = sp_gb (sp_st1 S j) s := by
        unfold sp_st1
        rw [k 7 _ (by decide) (by decide) (by decide) (by decide), k 18 _ (by decide) (by decide) (by decide) (by decide)]
        split
        · rfl
        · rename_i c7
          have d7 : S 7 j = 1 := by have := hst.2.1 j h0 (by omega); omega
          split
          · rename_i c18
            have gj := hst.2.2.2 j (Int.le_refl j) (by omega) d7 c18
            rw [sp_gb_up (by decide) (by decide) (by decide) (by decide) (by decide), sp_gb_up (by decide) (by decide) (by decide) (by decide) (by decide), sp_gb_gb (s := s) (t := j) (fun x => e x.symm) (fun a b a1 a2 b1 b2 x y z => ?_) (fun x => ?_) (fun x => ?_) (fun x => ?_) (fun x => ?_)]
            · have ra : a < S 11 s := by
                rcases (show a = 0 ∨ a = 1 by omega) with rfl | rfl
                · rw [if_pos rfl] at x
                  exact (gs.1.resolve_left x).2.1
                · rw [if_neg (by decide)] at x
                  exact (gs.2.resolve_left x).2.1
              have rb : b < S 11 j := by
                rcases (show b = 0 ∨ b = 1 by omega) with rfl | rfl
                · rw [if_pos rfl] at y
                  exact (gj.1.resolve_left y).2.1
                · rw [if_neg (by decide)] at y
                  exact (gj.2.resolve_left y).2.1
              have := hst.2.2.1 s j a b (by omega) (by omega) h0 (by omega) h7 d7 a1 ra b1 rb z
              omega
            · have := gs.1.resolve_left x; omega
            · have := gs.2.resolve_left x; omega
            · have := gj.1.resolve_left x; omega
            · have := gj.2.resolve_left x; omega
          · rw [sp_gb_up (by decide) (by decide) (by decide) (by decide) (by decide), sp_gb_up (by decide) (by decide) (by decide) (by decide) (by decide)]
      rw [q]
      have e18 : sp_st1 S j 18 s = S 18 s := by
        unfold sp_st1
        split
        · rfl
        · rw [az_up_kn (by decide), az_up_en (fun x => e x.symm)]
          split
          · exact sp_gb_k (by decide) (by decide) (by decide) (by decide)
          · rfl
      exact sp_stF_gb m (j + 1) (sp_st1 S j) (hst.next ⟨h0, by omega⟩) (by omega) (by omega) (by rw [sp_st1_7]; exact h7) (by rw [e18]; exact h18) (by omega) (by omega)
theorem sp_stops_gb (hst : iv_st S 0) (h1 : 0 ≤ s) (h2 : s < 12) (h7 : S 7 s = 1) (h18 : S 18 s = 1) : sp_stops (sp_gb S s) = sp_stops S := sp_stF_gb 12 0 S hst (by decide) (by decide) h7 h18 h1 (by omega)
end IvT
