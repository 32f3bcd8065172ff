-- deps: 30.mK 31.mL 32.mM 34.mN 37.mQ 38.mR 39.mS 43.cls 44.sta 44.stb 44.stc 44.std 45.cA 46.cB 47.cC 48.cD 49.cE 50.cF 54.cI 55.cJ 58.cM 59.cN 43.raw 51.cG 53.cH 56.cK 57.cL 52.cG2 60.cO 62.cQ 64.iA 65.iB 66.iC 67.iD 68.iE 34.mN2 34.mN3 35.mO 36.mP 33.mM2
/-! ===== the invariant is kept: lots move ===== -/
section IvF
variable {S S1 : az_M} {loc : Int → Int} {D F : Nat} {s b l : Int}
def lc (loc : Int → Int) (l c : Int) : Int → Int := fun x => if x = l then c else loc x
theorem lc_y {c : Int} : lc loc l c l = c := by unfold lc; rw [if_pos rfl]
theorem lc_n {c x : Int} (h : x ≠ l) : lc loc l c x = loc x := by unfold lc; rw [if_neg h]
theorem iB.nt (h : iB S loc) (hn : ∀ c, 0 ≤ c → c < 16 → loc l ≠ c + 1) (b i : Int) (b1 : 0 ≤ b) (b2 : b < 16) (i1 : 0 ≤ i) (i2 : i < S 4 b) : S 5 (40 * b + i) ≠ l := fun q => by
  have e := (h.be b i b1 b2 i1 i2).2
  rw [q] at e
  exact hn b b1 b2 e
theorem iB.puts (h : iB S loc) (h0 : S 0 0 ≠ 0) (b1 : 0 ≤ b) (b2 : b < 16) (hr : S 4 b < S 3 b) (hl : 0 ≤ l ∧ l < S 33 0) (hL : S 33 0 ≤ 1500) (hn : ∀ c, 0 ≤ c → c < 16 → loc l ≠ c + 1) : iB (sp_puts S b l) (lc loc l (b + 1)) := by
  have nt := h.nt hn
  have q3 := h.b3 b b1 b2
  have q4 := (h.b4 b b1 b2).1
  have K : ∀ (k1 : Nat) (i : Int), k1 ≠ 5 ∧ k1 ≠ 4 → sp_puts S b l k1 i = S k1 i := fun k1 i a => sp_puts_k' a.1 a.2
  have f4 : ∀ i, sp_puts S b l 4 i = if i = b then S 4 b + 1 else S 4 i := fun i => by
    unfold sp_puts
    rw [az_up_at, az_up_kn (by decide)]
  have f5 : ∀ i, sp_puts S b l 5 i = if i = 40 * b + S 4 b then l else S 5 i := fun i => by
    unfold sp_puts
    rw [az_up_kn (by decide), az_up_at]
  refine ⟨fun c c1 c2 => ?_, fun c c1 c2 => ?_, fun c c1 c2 => ?_, fun i i1 i2 => ?_, fun c i c1 c2 i1 i2 => ?_, fun c i j c1 c2 i1 i2 i3 => ?_, fun q => ?_, fun q => ?_⟩
  · rw [K 3 _ (by decide)]; exact h.b3 c c1 c2
  · rw [K 3 _ (by decide), K 6 _ (by decide), f4]
    have := h.b4 c c1 c2
    split
    · rename_i e
      subst e
      omega
    · exact this
  · rw [K 6 _ (by decide)]; exact h.b6 c c1 c2
  · rw [f5]
    have := h.r5 i i1 i2
    split <;> omega
  · rw [f5, K 33 _ (by decide)]
    rw [f4] at i2
    have qc := (h.b4 c c1 c2).1
    have qc3 := h.b3 c c1 c2
    by_cases e : c = b
    · subst e
      rw [if_pos rfl] at i2
      by_cases e2 : i = S 4 c
      · rw [if_pos (by omega), lc_y]
        exact ⟨hl, rfl⟩
      · have q := h.be c i c1 c2 i1 (by omega)
        rw [if_neg (by omega), lc_n (nt c i c1 c2 i1 (by omega))]
        exact q
    · rw [if_neg e] at i2
      have q := h.be c i c1 c2 i1 i2
      rw [if_neg (by omega), lc_n (nt c i c1 c2 i1 i2)]
      exact q
  · rw [f5, f5]
    rw [f4] at i3
    have qc := (h.b4 c c1 c2).1
    have qc3 := h.b3 c c1 c2
    by_cases e : c = b
    · subst e
      rw [if_pos rfl] at i3
      rw [if_neg (by omega)]
      by_cases e2 : j = S 4 c
      · rw [if_pos (by omega)]
        exact nt c i c1 c2 i1 (by omega)
      · rw [if_neg (by omega)]
        exact h.bd c i j c1 c2 i1 i2 (by omega)
    · rw [if_neg e] at i3
      rw [if_neg (by omega), if_neg (by omega)]
      exact h.bd c i j c1 c2 i1 i2 i3
  · rw [K 0 _ (by decide)] at q; exact absurd q h0
  · rw [K 0 _ (by decide)] at q; exact absurd q h0
theorem sp_backs_r {i : Int} : sp_backs S b l 5 i = if i = 40 * b then l else if 40 * b < i ∧ i ≤ 40 * b + S 4 b then S 5 (i - 1) else S 5 i := by
  unfold sp_backs sp_su
  rw [az_up_kn (by decide), az_up_at]
  split
  · rfl
  · by_cases c : 40 * b < i ∧ i ≤ 40 * b + S 4 b
    · rw [if_pos ⟨rfl, c⟩, if_pos c]
    · rw [if_neg (fun q => c q.2), if_neg c]
theorem iB.backs (h : iB S loc) (h0 : S 0 0 ≠ 0) (b1 : 0 ≤ b) (b2 : b < 16) (hp : 0 < S 3 b) (hr : S 4 b ≤ S 3 b) (hl : 0 ≤ l ∧ l < S 33 0) (hL : S 33 0 ≤ 1500) (hn : ∀ c, 0 ≤ c → c < 16 → loc l ≠ c + 1) : iB (sp_backs S b l) (lc loc l (b + 1)) := by
  have nt := h.nt hn
  have q3 := h.b3 b b1 b2
  have q4 := (h.b4 b b1 b2).1
  have K : ∀ (k1 : Nat) (i : Int), k1 ≠ 5 ∧ k1 ≠ 4 → sp_backs S b l k1 i = S k1 i := fun k1 i a => sp_backs_k a.1 a.2
  have f4 : ∀ i, sp_backs S b l 4 i = if i = b then S 4 b + 1 else S 4 i := fun i => sp_backs_4
  have f5 := fun i => sp_backs_r (S := S) (b := b) (l := l) (i := i)
  refine ⟨fun c c1 c2 => ?_, fun c c1 c2 => ?_, fun c c1 c2 => ?_, fun i i1 i2 => ?_, fun c i c1 c2 i1 i2 => ?_, fun c i j c1 c2 i1 i2 i3 => ?_, fun q => ?_, fun q => ?_⟩
  · rw [K 3 _ (by decide)]; exact h.b3 c c1 c2
  · rw [K 3 _ (by decide), K 6 _ (by decide), f4]
    have := h.b4 c c1 c2
    split
    · rename_i e
      subst e
      omega
    · exact this
  · rw [K 6 _ (by decide)]; exact h.b6 c c1 c2
  · rw [f5]
    split
    · omega
    · split
      · exact h.r5 (i - 1) (by omega) (by omega)
      · exact h.r5 i i1 i2
  · rw [f5, K 33 _ (by decide)]
    rw [f4] at i2
    have qc := (h.b4 c c1 c2).1
    have qc3 := h.b3 c c1 c2
    by_cases e : c = b
    · subst e
      rw [if_pos rfl] at i2
      by_cases e2 : i = 0
      · rw [if_pos (by omega), lc_y]
        exact ⟨hl, rfl⟩
      · have q := h.be c (i - 1) c1 c2 (by omega) (by omega)
        have n := nt c (i - 1) c1 c2 (by omega) (by omega)
        rw [if_neg (by omega), if_pos (by omega), show 40 * c + i - 1 = 40 * c + (i - 1) by omega, lc_n n]
        exact q
    · rw [if_neg e] at i2
      have q := h.be c i c1 c2 i1 i2
      rw [if_neg (by omega), if_neg (by omega), lc_n (nt c i c1 c2 i1 i2)]
      exact q
  · rw [f5, f5]
    rw [f4] at i3
    have qc := (h.b4 c c1 c2).1
    have qc3 := h.b3 c c1 c2
    by_cases e : c = b
    · subst e
      rw [if_pos rfl] at i3
      have ej : 40 * c + j - 1 = 40 * c + (j - 1) := by omega
      rw [if_neg (show ¬ 40 * c + j = 40 * c by omega), if_pos (show 40 * c < 40 * c + j ∧ 40 * c + j ≤ 40 * c + S 4 c by omega), ej]
      by_cases e2 : i = 0
      · rw [if_pos (by omega)]
        exact fun q => nt c (j - 1) c1 c2 (by omega) (by omega) q.symm
      · rw [if_neg (by omega), if_pos (by omega), show 40 * c + i - 1 = 40 * c + (i - 1) by omega]
        exact h.bd c (i - 1) (j - 1) c1 c2 (by omega) (by omega) (by omega)
    · rw [if_neg e] at i3
      rw [if_neg (by omega), if_neg (by omega), if_neg (by omega), if_neg (by omega)]
      exact h.bd c i j c1 c2 i1 i2 i3
  · rw [K 0 _ (by decide)] at q; exact absurd q h0
  · rw [K 0 _ (by decide)] at q; exact absurd q h0
theorem iB.takes (h : iB S loc) (h0 : S 0 0 ≠ 0) (b1 : 0 ≤ b) (b2 : b < 16) (hr : 0 < S 4 b) (v : Int) : iB (sp_takes S b) (lc loc (S 5 (40 * b)) v) := by
  have q3 := h.b3 b b1 b2
  have q4 := (h.b4 b b1 b2).1
  have e0 := h.be b 0 b1 b2 (by decide) hr
  rw [Int.add_zero] at e0
  have nt : ∀ c i, 0 ≤ c → c < 16 → 0 ≤ i → i < S 4 c → (c = b → 1 ≤ i) → S 5 (40 * c + i) ≠ S 5 (40 * b) := fun c i c1 c2 i1 i2 i3 q => by
    have e := (h.be c i c1 c2 i1 i2).2
    rw [q, e0.2] at e
    have ec : c = b := by omega
    subst ec
    have := h.bd c 0 i c1 c2 (by decide) (by have := i3 rfl; omega) i2
    rw [Int.add_zero] at this
    exact this q.symm
  have K : ∀ (k1 : Nat) (i : Int), k1 ≠ 5 ∧ k1 ≠ 4 → sp_takes S b k1 i = S k1 i := fun k1 i a => sp_takes_k a.1 a.2
  have f4 : ∀ i, sp_takes S b 4 i = if i = b then S 4 b - 1 else S 4 i := fun i => sp_takes_4
  have f5 := fun i => sp_takes_5 (S := S) (b := b) (i := i)
  refine ⟨fun c c1 c2 => ?_, fun c c1 c2 => ?_, fun c c1 c2 => ?_, fun i i1 i2 => ?_, fun c i c1 c2 i1 i2 => ?_, fun c i j c1 c2 i1 i2 i3 => ?_, fun q => ?_, fun q => ?_⟩
  · rw [K 3 _ (by decide)]; exact h.b3 c c1 c2
  · rw [K 3 _ (by decide), K 6 _ (by decide), f4]
    have := h.b4 c c1 c2
    split
    · rename_i e
      subst e
      omega
    · exact this
  · rw [K 6 _ (by decide)]; exact h.b6 c c1 c2
  · rw [f5]
    split
    · exact h.r5 (i + 1) (by omega) (by omega)
    · exact h.r5 i i1 i2
  · rw [f5, K 33 _ (by decide)]
    rw [f4] at i2
    have qc := (h.b4 c c1 c2).1
    have qc3 := h.b3 c c1 c2
    by_cases e : c = b
    · subst e
      rw [if_pos rfl] at i2
      have q := h.be c (i + 1) c1 c2 (by omega) (by omega)
      rw [if_pos (by omega), show 40 * c + i + 1 = 40 * c + (i + 1) by omega, lc_n (nt c (i + 1) c1 c2 (by omega) (by omega) (fun _ => by omega))]
      exact q
    · rw [if_neg e] at i2
      have q := h.be c i c1 c2 i1 i2
      rw [if_neg (by omega), lc_n (nt c i c1 c2 i1 i2 (fun q => absurd q e))]
      exact q
  · rw [f5, f5]
    rw [f4] at i3
    have qc := (h.b4 c c1 c2).1
    have qc3 := h.b3 c c1 c2
    by_cases e : c = b
    · subst e
      rw [if_pos rfl] at i3
      rw [if_pos (by omega), if_pos (by omega), show 40 * c + i + 1 = 40 * c + (i + 1) by omega, show 40 * c + j + 1 = 40 * c + (j + 1) by omega]
      exact h.bd c (i + 1) (j + 1) c1 c2 (by omega) (by omega) (by omega)
    · rw [if_neg e] at i3
      rw [if_neg (by omega), if_neg (by omega)]
      exact h.bd c i j c1 c2 i1 i2 i3
  · rw [K 0 _ (by decide)] at q; exact absurd q h0
  · rw [K 0 _ (by decide)] at q; exact absurd q h0
/-- one stage's load, elsewhere something happened -/
theorem iv_e_fr {t : Int} (h : iv_e S t) (h1 : S1 21 t = S 21 t) (h2 : S1 22 t = S 22 t) (h3 : S1 23 t = S 23 t) (h4 : S1 20 t = S 20 t) (h5 : S1 108 t = S 108 t) (h6 : ∀ i, 0 ≤ i → i < 3 → S1 109 (3 * t + i) = S 109 (3 * t + i)) : iv_e S1 t := by
  have a := h6 0 (by decide) (by decide)
  rw [Int.add_zero] at a
  unfold iv_e at h ⊢
  rw [h1, h2, h3, h4, h5, a, h6 1 (by decide) (by decide), h6 2 (by decide) (by decide)]
  exact h
theorem iv_wk_fr {loc' : Int → Int} {t : Int} (h : iv_wk S loc t) (h1 : S1 21 t = S 21 t) (h2 : S1 22 t = S 22 t) (h3 : S1 23 t = S 23 t) (h4 : S1 20 t = S 20 t) (h5 : S1 108 t = S 108 t) (h6 : ∀ i, 0 ≤ i → i < 3 → S1 109 (3 * t + i) = S 109 (3 * t + i)) (h8 : S1 8 t = S 8 t) (h33 : S 33 0 ≤ S1 33 0) (hl : ∀ x, 0 ≤ x → x < S 33 0 → loc x = 20 + t → loc' x = 20 + t) (hr : ∀ i, 0 ≤ i → i < S1 11 t → S1 4 (S1 12 (2 * t + i)) ≤ S1 3 (S1 12 (2 * t + i))) : iv_wk S1 loc' t := by
  have a := h6 0 (by decide) (by decide)
  rw [Int.add_zero] at a
  obtain ⟨⟨q0, q1⟩, q2, q3, q4, q5, q6, q7, q8, q9, q10⟩ := h
  refine ⟨?_, ?_, ?_, ?_, ?_, ?_, ?_, ?_, ?_, hr⟩
  · rw [h1]; exact ⟨by omega, hl _ q0.1 q0.2 q1⟩
  · rw [h8, h2]; exact q2
  · rw [h8, h2, h1]
    intro k
    have w := q3 k
    exact ⟨by omega, hl _ w.1.1 w.1.2 w.2.1, w.2.2⟩
  · rw [h3]; exact q4
  · rw [h4]; exact q5
  · rw [h5]; exact q6
  · rw [a]; exact q7
  · rw [h6 1 (by decide) (by decide)]; exact q8
  · rw [h6 2 (by decide) (by decide)]; exact q9
theorem iv_pt_fr {loc' : Int → Int} {t : Int} (h : iv_pt S loc t) (h1 : S1 21 t = S 21 t) (h2 : S1 22 t = S 22 t) (h3 : S1 23 t = S 23 t) (h4 : S1 20 t = S 20 t) (h5 : S1 108 t = S 108 t) (h6 : ∀ i, 0 ≤ i → i < 3 → S1 109 (3 * t + i) = S 109 (3 * t + i) ∧ S1 24 (3 * t + i) = S 24 (3 * t + i) ∧ S1 25 (3 * t + i) = S 25 (3 * t + i) ∧ S1 26 (3 * t + i) = S 26 (3 * t + i)) (h13 : S1 13 t = S 13 t) (h33 : S 33 0 ≤ S1 33 0) (hl : loc (S 21 t) = 20 + t → loc' (S 21 t) = 20 + t) (h34 : S1 34 (S 21 t) = S 34 (S 21 t)) (h35 : S1 35 (S 21 t) = S 35 (S 21 t)) : iv_pt S1 loc' t := by
  have a := h6 0 (by decide) (by decide)
  rw [Int.add_zero] at a
  have b := h6 1 (by decide) (by decide)
  have c := h6 2 (by decide) (by decide)
  obtain ⟨⟨q0, q1⟩, q2, q3, q4, q5, q6, q7, q8, q9, q10, q11⟩ := h
  have eh : ∀ o, sp_hi S1 (S 21 t) o = sp_hi S (S 21 t) o := fun o => by unfold sp_hi; rw [h35]
  refine ⟨?_, ?_, ?_, ?_, ?_, ?_, ?_, ?_, ?_, ?_, ?_⟩
  · rw [h1]; exact ⟨by omega, hl q1⟩
  · rw [h2]; exact q2
  · rw [h4]; exact q3
  · rw [h5, h13]; exact q4
  · rw [a.2.2.2, h5]; exact q5
  · rw [a.2.1, h1, h34]; exact q6
  · rw [a.2.2.1, h1, h35]; exact q7
  · rw [a.1]; exact q8
  · rw [b.1, c.1]; exact q9
  · rw [b.1, c.1, h5]; exact q10
  · unfold iv_pc at q11 ⊢
    rw [b.1, c.1, h3, b.2.1, b.2.2.1, b.2.2.2, c.2.1, c.2.2.1, c.2.2.2, h1, eh, eh, h13]
    exact q11
/-- feed -/
theorem Inv.feed (h : Inv S loc D F) {g gr d o : Int} (hF : F + 1 ≤ 512) (hc : sp_feedC S b g gr d o) : Inv (sp_feedU S b g gr d o) (lc loc (S 33 0) (b + 1)) D (F + 1) := by
  obtain ⟨c0, c1, c2, c3, c4, c5, c6, c7, c8⟩ := hc
  have g33 := h.a.g33
  have b1 : 0 ≤ b := c2.1.1
  have b2 : b < 16 := by omega
  -- first the lot, then its place
  generalize hT : az_up (az_up (sp_new S g gr d o) 48 0 (az_v (S 48 0 + g))) 33 0 (S 33 0 + 1) = T
  have eU : sp_feedU S b g gr d o = sp_puts T b (S 33 0) := by
    rw [← hT]
    unfold sp_feedU sp_puts
    rw [az_up_cm (k1 := 4) (k2 := 33) (by decide), az_up_cm (k1 := 5) (k2 := 33) (by decide), az_up_kn (k := 33) (k1 := 4) (by decide)]
  rw [eU]
  have K : ∀ (k1 : Nat) (i : Int), k1 ≠ 33 ∧ k1 ≠ 34 ∧ k1 ≠ 35 ∧ k1 ≠ 36 ∧ k1 ≠ 37 ∧ k1 ≠ 48 → T k1 i = S k1 i := fun k1 i a => by
    rw [← hT]
    unfold sp_new
    rw [az_up_kn a.1, az_up_kn a.2.2.2.2.2, az_up_kn a.2.2.2.2.1, az_up_kn a.2.2.2.2.1, az_up_kn a.2.2.2.2.1, az_up_kn a.2.2.2.2.1, az_up_kn a.2.2.2.1, az_up_kn a.2.2.1, az_up_kn a.2.1]
  have f33 : T 33 0 = S 33 0 + 1 := by rw [← hT, az_up_ee]
  have f34 : ∀ i, T 34 i = if i = S 33 0 then g else S 34 i := fun i => by
    rw [← hT]
    unfold sp_new
    simp (disch := decide) only [az_up_kn, az_up_at]
  have f35 : ∀ i, T 35 i = if i = S 33 0 then gr else S 35 i := fun i => by
    rw [← hT]
    unfold sp_new
    simp (disch := decide) only [az_up_kn, az_up_at]
  have f36 : ∀ i, T 36 i = if i = S 33 0 then d else S 36 i := fun i => by
    rw [← hT]
    unfold sp_new
    simp (disch := decide) only [az_up_kn, az_up_at]
  have f37 : ∀ i, i < 4 * S 33 0 ∨ 4 * S 33 0 + 3 < i → T 37 i = S 37 i := fun i q => by
    rw [← hT]
    unfold sp_new
    simp (disch := first | decide | omega) only [az_up_kn, az_up_en]
  have g37 : T 37 (4 * S 33 0) = (if o = 0 then 1000000 else 0) ∧ T 37 (4 * S 33 0 + 1) = (if o = 1 then 1000000 else 0) ∧ T 37 (4 * S 33 0 + 2) = (if o = 2 then 1000000 else 0) ∧ T 37 (4 * S 33 0 + 3) = (if o = 3 then 1000000 else 0) := by
    rw [← hT]
    unfold sp_new
    simp (disch := first | decide | omega) only [az_up_kn, az_up_en, az_up_ee, and_self]
  have old : ∀ x, 0 ≤ x → x < S 33 0 → x ≠ S 33 0 := fun x _ q => by omega
  have zT : iZ T := by
    refine ⟨fun i hi => ?_, fun x x1 x2 => ?_⟩
    · rw [f33] at hi
      have q := h.z.zl i (by omega)
      rw [f34, f35, f36, if_neg (by omega), if_neg (by omega), if_neg (by omega), f37 _ (by omega), f37 _ (by omega), f37 _ (by omega), f37 _ (by omega)]
      exact q
    · rw [f33] at x2
      unfold iv_l
      by_cases e : x = S 33 0
      · rw [f34, f35, f36, if_pos e, if_pos e, if_pos e, e, g37.1, g37.2.1, g37.2.2.1, g37.2.2.2]
        refine ⟨by omega, c4, c5, ?_⟩
        rcases (show o = 0 ∨ o = 1 ∨ o = 2 ∨ o = 3 by omega) with rfl | rfl | rfl | rfl <;> decide
      · rw [f34, f35, f36, if_neg e, if_neg e, if_neg e, f37 _ (by omega), f37 _ (by omega), f37 _ (by omega), f37 _ (by omega)]
        exact h.z.lo x x1 (by omega)
  have nb : ∀ c, 0 ≤ c → c < 16 → lc loc (S 33 0) 0 (S 33 0) ≠ c + 1 := fun c c1 c2 => by rw [lc_y]; omega
  have bT : iB T (lc loc (S 33 0) 0) := by
    obtain ⟨a1, a2, a3, a4, a5, a6, a7, a8⟩ := h.b
    refine ⟨?_, ?_, ?_, ?_, fun c i c1 c2 i1 i2 => ?_, ?_, fun q => ?_, fun q => ?_⟩
    · simp only [K 3 _ (by decide)]; exact a1
    · simp only [K 3 _ (by decide), K 4 _ (by decide), K 6 _ (by decide)]; exact a2
    · simp only [K 6 _ (by decide)]; exact a3
    · simp only [iv_r5, K 5 _ (by decide)]; exact a4
    · rw [K 4 _ (by decide)] at i2
      have q := a5 c i c1 c2 i1 i2
      rw [K 5 _ (by decide), f33, lc_n (by omega)]
      exact ⟨by omega, q.2⟩
    · simp only [K 4 _ (by decide), K 5 _ (by decide)]; exact a6
    · rw [K 0 _ (by decide)] at q; omega
    · rw [K 0 _ (by decide)] at q; omega
  have bU := bT.puts (b := b) (l := S 33 0) (by rw [K 0 _ (by decide)]; omega) b1 b2 (by rw [K 4 _ (by decide), K 3 _ (by decide)]; exact c7) (by rw [f33]; omega) (by rw [f33]; omega) nb
  have elc : lc (lc loc (S 33 0) 0) (S 33 0) (b + 1) = lc loc (S 33 0) (b + 1) := by
    funext x
    unfold lc
    split <;> rfl
  rw [elc] at bU
  have P : ∀ (k1 : Nat) (i : Int), k1 ≠ 5 ∧ k1 ≠ 4 → sp_puts T b (S 33 0) k1 i = T k1 i := fun k1 i a => sp_puts_k' a.1 a.2
  have p4 : ∀ i, sp_puts T b (S 33 0) 4 i = if i = b then S 4 b + 1 else S 4 i := fun i => by
    unfold sp_puts
    rw [az_up_at, az_up_kn (by decide), K 4 _ (by decide), K 4 _ (by decide)]
  generalize hU : sp_puts T b (S 33 0) = U at bU P p4
  have KU : ∀ (k1 : Nat) (i : Int), k1 ≠ 33 ∧ k1 ≠ 34 ∧ k1 ≠ 35 ∧ k1 ≠ 36 ∧ k1 ≠ 37 ∧ k1 ≠ 48 ∧ k1 ≠ 4 ∧ k1 ≠ 5 → U k1 i = S k1 i := fun k1 i a => by
    rw [P k1 i ⟨a.2.2.2.2.2.2.2, a.2.2.2.2.2.2.1⟩, K k1 i (by omega)]
  refine ⟨⟨?_, ?_, ?_, ?_⟩, iZ_cg zT (fun k1 i q => P k1 i (by omega)), bU, iL_cg h.l (fun k1 i q => KU k1 i (by omega)), ?_, ?_, ?_⟩
  · rw [KU 0 _ (by decide)]; exact h.a.g0
  · rw [KU 1 _ (by decide)]; exact h.a.g1
  · rw [KU 2 _ (by decide)]; exact h.a.g2
  · rw [P 33 _ (by decide), f33]; omega
  · have u33 : S 33 0 ≤ U 33 0 := by rw [P 33 _ (by decide), f33]; omega
    have ee : ∀ t, iv_e S t → iv_e U t := fun t q => iv_e_fr q (KU 21 _ (by decide)) (KU 22 _ (by decide)) (KU 23 _ (by decide)) (KU 20 _ (by decide)) (KU 108 _ (by decide)) (fun i _ _ => KU 109 _ (by decide))
    have pp : ∀ t, iv_pt S loc t → iv_pt U (lc loc (S 33 0) (b + 1)) t := fun t q => by
      have q0 := q.1
      exact iv_pt_fr q (KU 21 _ (by decide)) (KU 22 _ (by decide)) (KU 23 _ (by decide)) (KU 20 _ (by decide)) (KU 108 _ (by decide)) (fun i _ _ => ⟨KU 109 _ (by decide), KU 24 _ (by decide), KU 25 _ (by decide), KU 26 _ (by decide)⟩) (KU 13 _ (by decide)) u33 (fun w => by rw [lc_n (by omega)]; exact w) (by rw [P 34 _ (by decide), f34, if_neg (by omega)]) (by rw [P 35 _ (by decide), f35, if_neg (by omega)])
    have ww : ∀ t, 0 ≤ t → t < 12 → S 7 t = 1 → iv_wk S loc t → iv_wk U (lc loc (S 33 0) (b + 1)) t := fun t t1 t2 t3 q => by
      refine iv_wk_fr q (KU 21 _ (by decide)) (KU 22 _ (by decide)) (KU 23 _ (by decide)) (KU 20 _ (by decide)) (KU 108 _ (by decide)) (fun i _ _ => KU 109 _ (by decide)) (KU 8 _ (by decide)) u33 (fun x x1 x2 x3 => by rw [lc_n (by omega)]; exact x3) (fun i i1 i2 => ?_)
      rw [KU 11 _ (by decide)] at i2
      rw [KU 12 _ (by decide), KU 3 _ (by decide), p4]
      split
      · rename_i e
        rw [e]
        omega
      · exact q.2.2.2.2.2.2.2.2.2 i i1 i2
    refine ⟨fun t t1 t2 t3 => ?_, fun q => ?_, fun t t1 t2 t3 => ?_, fun t g t1 t2 t3 t4 => ?_⟩
    · rw [KU 7 _ (by decide)] at t3
      rw [KU 18 _ (by decide), KU 19 _ (by decide)]
      rcases h.m.md t t1 t2 t3 with ⟨x, y, q⟩ | ⟨x, y, q⟩ | ⟨x, y, q⟩ | ⟨x, y, q⟩ | ⟨x, y, q⟩
      · exact Or.inl ⟨x, y, ee t q⟩
      · exact Or.inr (Or.inl ⟨x, y, ww t t1 t2 t3 q⟩)
      · exact Or.inr (Or.inr (Or.inl ⟨x, y, pp t q⟩))
      · exact Or.inr (Or.inr (Or.inr (Or.inl ⟨x, y, ee t q⟩)))
      · exact Or.inr (Or.inr (Or.inr (Or.inr ⟨x, y, q.elim (fun q => Or.inl (ee t q)) (fun q => Or.inr (pp t q))⟩)))
    · rw [KU 0 _ (by decide)] at q; omega
    · rw [KU 7 _ (by decide)] at t3
      have q := h.m.mu t t1 t2 t3
      rw [KU 18 _ (by decide), KU 19 _ (by decide), KU 28 _ (by decide), KU 32 _ (by decide), KU 29 _ (by decide), KU 30 _ (by decide), KU 31 _ (by decide)]
      exact ⟨q.1, q.2.1, ee t q.2.2.1, q.2.2.2⟩
    · rw [KU 27 _ (by decide), KU 7 _ (by decide)]; exact h.m.le t g t1 t2 t3 t4
  · obtain ⟨a1, b1', b1'', d1, e1, g1, i1, j1, l1, m1⟩ := h.p
    have e42 : U 42 = S 42 := funext (fun i => KU 42 i (by decide))
    have al : ∀ i, 0 ≤ i → i < S 43 0 → (0 ≤ S 44 i ∧ S 44 i < U 33 0) ∧ lc loc (S 33 0) (b + 1) (S 44 i) = 0 ∧ S 101 i = U 34 (S 44 i) := fun i i1 i2 => by
      have q := l1 i i1 i2
      rw [P 33 _ (by decide), f33, P 34 _ (by decide), f34, if_neg (by omega), lc_n (by omega)]
      exact ⟨by omega, q.2⟩
    refine ⟨?_, ?_, ?_, ?_, ?_, ?_, ?_, ?_, ?_, ?_⟩ <;> simp only [iv_plans, e42, KU 2 _ (by decide), KU 7 _ (by decide), KU 28 _ (by decide), KU 32 _ (by decide), KU 38 _ (by decide), KU 39 _ (by decide), KU 40 _ (by decide), KU 41 _ (by decide), KU 43 _ (by decide), KU 44 _ (by decide), KU 101 _ (by decide), KU 102 _ (by decide)] <;> assumption
  · have u33 : (U 33 0).toNat = (S 33 0).toNat + 1 := by rw [P 33 _ (by decide), f33]; omega
    have cast : (((S 33 0).toNat : Nat) : Int) = S 33 0 := by omega
    have s1 : sp_sum (ps_l U (lc loc (S 33 0) (b + 1))) (S 33 0).toNat = sp_sum (ps_l S loc) (S 33 0).toNat := sm_cg _ (fun j j1 j2 => by
      have n1 : j ≠ S 33 0 := by omega
      have a1 : U 34 j = S 34 j := by rw [P 34 _ (by decide), f34, if_neg n1]
      have a2 : U 36 j = S 36 j := by rw [P 36 _ (by decide), f36, if_neg n1]
      unfold ps_l
      rw [lc_n n1, a1, a2])
    have s2 : sp_sum (ps_s U) 12 = sp_sum (ps_s S) 12 := sm_cg _ (fun j j1 j2 => by
      have w := iv_first h.m j j1 (by omega) (h.l.s7 j j1 (by omega))
      unfold ps_s
      rw [KU 21 _ (by decide), KU 109 _ (by decide), KU 109 _ (by decide), KU 109 _ (by decide)]
      split
      · rfl
      · rename_i c
        have w := w.resolve_left c
        rw [P 36 _ (by decide), f36, if_neg (by omega)])
    have s3 : sp_sum (ps_n (lc loc (S 33 0) (b + 1))) (S 33 0).toNat = sp_sum (ps_n loc) (S 33 0).toNat := sm_cg _ (fun j j1 j2 => by
      unfold ps_n
      rw [lc_n (by omega)])
    have t1 : ps_l U (lc loc (S 33 0) (b + 1)) (S 33 0) ≤ 100000000 := by
      unfold ps_l
      rw [lc_y, if_neg (by omega), P 34 _ (by decide), P 36 _ (by decide), f34, f36, if_pos rfl, if_pos rfl]
      have m := mx_b d c5.1
      have : g * mx d ≤ g * 1000 := Int.mul_le_mul_of_nonneg_left m.2 (by omega)
      omega
    have t3 : ps_n (lc loc (S 33 0) (b + 1)) (S 33 0) = 1 := by
      unfold ps_n
      rw [lc_y, if_neg (by omega)]
    refine ⟨?_, ?_, by omega⟩
    · rw [u33]
      show sp_sum (ps_l U (lc loc (S 33 0) (b + 1))) (S 33 0).toNat + ps_l U (lc loc (S 33 0) (b + 1)) (((S 33 0).toNat : Nat) : Int) + sp_sum (ps_s U) 12 ≤ _
      rw [cast, s1, s2]
      have q := h.q.q1
      have bb := ps_b_0 D
      have e : ps_b D * ((F + 1 : Nat) : Int) = ps_b D * F + ps_b D := by
        rw [show ((F + 1 : Nat) : Int) = (F : Int) + 1 by omega, Int.mul_add, Int.mul_one]
      omega
    · rw [u33]
      show (D : Int) + (sp_sum (ps_n (lc loc (S 33 0) (b + 1))) (S 33 0).toNat + ps_n (lc loc (S 33 0) (b + 1)) (((S 33 0).toNat : Nat) : Int)) ≤ _
      rw [cast, s3, t3, P 33 _ (by decide), f33]
      have := h.q.q2
      omega
end IvF
