-- deps: 30.mK 31.mL 34.mN 37.mQ 43.cls 44.sta 44.stb 44.stc 44.std 45.cA 46.cB 47.cC 48.cD 50.cF 54.cI 58.cM 43.raw 51.cG 53.cH 56.cK 57.cL
/-! ===== THE INVARIANT ===== -/
/-- globals -/
def iA (S : az_M) : Prop := (0 ≤ S 0 0 ∧ S 0 0 ≤ 1) ∧ (0 ≤ S 1 0 ∧ S 1 0 ≤ 1) ∧ (0 ≤ S 2 0 ∧ S 2 0 ≤ 5000) ∧ (0 ≤ S 33 0 ∧ S 33 0 ≤ 1500)
theorem iA.g0 {S : az_M} (h : iA S) : 0 ≤ S 0 0 ∧ S 0 0 ≤ 1 := h.1
theorem iA.g1 {S : az_M} (h : iA S) : 0 ≤ S 1 0 ∧ S 1 0 ≤ 1 := h.2.1
theorem iA.g2 {S : az_M} (h : iA S) : 0 ≤ S 2 0 ∧ S 2 0 ≤ 5000 := h.2.2.1
theorem iA.g33 {S : az_M} (h : iA S) : 0 ≤ S 33 0 ∧ S 33 0 ≤ 1500 := h.2.2.2
/-- a lot's numbers -/
def iv_l (S : az_M) (l : Int) : Prop := 1 ≤ S 34 l ∧ (0 ≤ S 35 l ∧ S 35 l ≤ 9) ∧ (0 ≤ S 36 l ∧ S 36 l ≤ 999) ∧ (0 ≤ S 37 (4 * l) ∧ 0 ≤ S 37 (4 * l + 1) ∧ 0 ≤ S 37 (4 * l + 2) ∧ 0 ≤ S 37 (4 * l + 3)) ∧ S 37 (4 * l) + S 37 (4 * l + 1) + S 37 (4 * l + 2) + S 37 (4 * l + 3) = 1000000
/-- lots -/
def iZ (S : az_M) : Prop := (iv_zl S) ∧ (∀ l, 0 ≤ l → l < S 33 0 → iv_l S l)
theorem iZ.zl {S : az_M} (h : iZ S) : iv_zl S := h.1
theorem iZ.lo {S : az_M} (h : iZ S) : ∀ l, 0 ≤ l → l < S 33 0 → iv_l S l := h.2
/-- bins -/
def iB (S : az_M) (loc : Int → Int) : Prop := (∀ b, 0 ≤ b → b < 16 → 0 ≤ S 3 b ∧ S 3 b ≤ 20) ∧ (∀ b, 0 ≤ b → b < 16 → (0 ≤ S 4 b ∧ S 4 b ≤ S 3 b + 1) ∧ (¬ 0 < S 3 b → S 4 b = 0 ∧ S 6 b = 0)) ∧ (∀ b, 0 ≤ b → b < 16 → 0 ≤ S 6 b ∧ S 6 b ≤ 21) ∧ (iv_r5 S) ∧ (∀ b i, 0 ≤ b → b < 16 → 0 ≤ i → i < S 4 b → (0 ≤ S 5 (40 * b + i) ∧ S 5 (40 * b + i) < S 33 0) ∧ loc (S 5 (40 * b + i)) = b + 1) ∧ (∀ b i j, 0 ≤ b → b < 16 → 0 ≤ i → i < j → j < S 4 b → S 5 (40 * b + i) ≠ S 5 (40 * b + j)) ∧ (S 0 0 = 0 → ∀ i, 0 ≤ i → i < 640 → S 5 i = 0) ∧ (S 0 0 = 0 → ∀ b, 0 ≤ b → b < 16 → S 4 b = 0 ∧ S 6 b = 0)
theorem iB.b3 {S : az_M} {loc : Int → Int} (h : iB S loc) : ∀ b, 0 ≤ b → b < 16 → 0 ≤ S 3 b ∧ S 3 b ≤ 20 := h.1
theorem iB.b4 {S : az_M} {loc : Int → Int} (h : iB S loc) : ∀ b, 0 ≤ b → b < 16 → (0 ≤ S 4 b ∧ S 4 b ≤ S 3 b + 1) ∧ (¬ 0 < S 3 b → S 4 b = 0 ∧ S 6 b = 0) := h.2.1
theorem iB.b6 {S : az_M} {loc : Int → Int} (h : iB S loc) : ∀ b, 0 ≤ b → b < 16 → 0 ≤ S 6 b ∧ S 6 b ≤ 21 := h.2.2.1
theorem iB.r5 {S : az_M} {loc : Int → Int} (h : iB S loc) : iv_r5 S := h.2.2.2.1
theorem iB.be {S : az_M} {loc : Int → Int} (h : iB S loc) : ∀ b i, 0 ≤ b → b < 16 → 0 ≤ i → i < S 4 b → (0 ≤ S 5 (40 * b + i) ∧ S 5 (40 * b + i) < S 33 0) ∧ loc (S 5 (40 * b + i)) = b + 1 := h.2.2.2.2.1
theorem iB.bd {S : az_M} {loc : Int → Int} (h : iB S loc) : ∀ b i j, 0 ≤ b → b < 16 → 0 ≤ i → i < j → j < S 4 b → S 5 (40 * b + i) ≠ S 5 (40 * b + j) := h.2.2.2.2.2.1
theorem iB.b0 {S : az_M} {loc : Int → Int} (h : iB S loc) : S 0 0 = 0 → ∀ i, 0 ≤ i → i < 640 → S 5 i = 0 := h.2.2.2.2.2.2.1
theorem iB.b1 {S : az_M} {loc : Int → Int} (h : iB S loc) : S 0 0 = 0 → ∀ b, 0 ≤ b → b < 16 → S 4 b = 0 ∧ S 6 b = 0 := h.2.2.2.2.2.2.2
/-- layout -/
def iL (S : az_M) : Prop := (∀ s, 0 ≤ s → s < 12 → 0 ≤ S 7 s ∧ S 7 s ≤ 1) ∧ (iv_r12 S) ∧ (∀ s, 0 ≤ s → s < 12 → S 7 s = 1 → (0 ≤ S 8 s ∧ S 8 s ≤ 5) ∧ sp_fits (S 8 s) (S 9 s) = true ∧ (-2147483648 ≤ S 9 s ∧ S 9 s < 2147483648) ∧ (1 ≤ S 10 s ∧ S 10 s ≤ 20) ∧ (0 ≤ S 11 s ∧ S 11 s ≤ sp_insOf S s) ∧ (0 ≤ S 13 s ∧ S 13 s ≤ sp_outsOf S s 0)) ∧ (∀ s, 0 ≤ s → s < 12 → S 7 s = 1 → S 8 s = 2 → ∀ i, 0 ≤ i → i < S 13 s → 1 ≤ S 15 (3 * s + i) ∧ S 15 (3 * s + i) ≤ 999) ∧ (∀ s, 0 ≤ s → s < 12 → S 7 s = 1 → iv_inb S s ∧ iv_outs S s) ∧ (∀ s, 0 ≤ s → s < 12 → S 7 s = 1 → (∀ t, 0 ≤ t → t ≤ 2 → 0 ≤ S 16 (3 * s + t) ∧ S 16 (3 * s + t) ≤ 2) ∧ (1 ≤ S 17 s ∧ S 17 s ≤ 30)) ∧ (S 0 0 = 1 → ∀ s, 0 ≤ s → s < 12 → S 7 s = 1 → S 11 s = sp_insOf S s ∧ sp_outsOf S s 1 ≤ S 13 s ∧ (S 8 s = 2 → sp_shs S s = 1000)) ∧ (S 0 0 = 1 → ∀ s t a b, 0 ≤ s → s < 12 → 0 ≤ t → t < 12 → S 7 s = 1 → S 7 t = 1 → 0 ≤ a → a < S 11 s → 0 ≤ b → b < S 11 t → S 12 (2 * s + a) = S 12 (2 * t + b) → s = t ∧ a = b) ∧ (∀ s, 0 ≤ s → s < 12 → S 7 s = 0 → S 8 s = 0 ∧ S 11 s = 0 ∧ S 13 s = 0 ∧ S 17 s = 5 ∧ (∀ i, 2 * s ≤ i → i < 2 * s + 2 → S 12 i = 0) ∧ (∀ i, 3 * s ≤ i → i < 3 * s + 3 → S 14 i = 0 ∧ S 15 i = 0 ∧ S 16 i = 0)) ∧ (S 100 0 = sp_sum (S 7) 12)
theorem iL.s7 {S : az_M} (h : iL S) : ∀ s, 0 ≤ s → s < 12 → 0 ≤ S 7 s ∧ S 7 s ≤ 1 := h.1
theorem iL.r12 {S : az_M} (h : iL S) : iv_r12 S := h.2.1
theorem iL.la {S : az_M} (h : iL S) : ∀ s, 0 ≤ s → s < 12 → S 7 s = 1 → (0 ≤ S 8 s ∧ S 8 s ≤ 5) ∧ sp_fits (S 8 s) (S 9 s) = true ∧ (-2147483648 ≤ S 9 s ∧ S 9 s < 2147483648) ∧ (1 ≤ S 10 s ∧ S 10 s ≤ 20) ∧ (0 ≤ S 11 s ∧ S 11 s ≤ sp_insOf S s) ∧ (0 ≤ S 13 s ∧ S 13 s ≤ sp_outsOf S s 0) := h.2.2.1
theorem iL.sh {S : az_M} (h : iL S) : ∀ s, 0 ≤ s → s < 12 → S 7 s = 1 → S 8 s = 2 → ∀ i, 0 ≤ i → i < S 13 s → 1 ≤ S 15 (3 * s + i) ∧ S 15 (3 * s + i) ≤ 999 := h.2.2.2.1
theorem iL.li {S : az_M} (h : iL S) : ∀ s, 0 ≤ s → s < 12 → S 7 s = 1 → iv_inb S s ∧ iv_outs S s := h.2.2.2.2.1
theorem iL.ru {S : az_M} (h : iL S) : ∀ s, 0 ≤ s → s < 12 → S 7 s = 1 → (∀ t, 0 ≤ t → t ≤ 2 → 0 ≤ S 16 (3 * s + t) ∧ S 16 (3 * s + t) ≤ 2) ∧ (1 ≤ S 17 s ∧ S 17 s ≤ 30) := h.2.2.2.2.2.1
theorem iL.st {S : az_M} (h : iL S) : S 0 0 = 1 → ∀ s, 0 ≤ s → s < 12 → S 7 s = 1 → S 11 s = sp_insOf S s ∧ sp_outsOf S s 1 ≤ S 13 s ∧ (S 8 s = 2 → sp_shs S s = 1000) := h.2.2.2.2.2.2.1
theorem iL.sd {S : az_M} (h : iL S) : S 0 0 = 1 → ∀ s t a b, 0 ≤ s → s < 12 → 0 ≤ t → t < 12 → S 7 s = 1 → S 7 t = 1 → 0 ≤ a → a < S 11 s → 0 ≤ b → b < S 11 t → S 12 (2 * s + a) = S 12 (2 * t + b) → s = t ∧ a = b := h.2.2.2.2.2.2.2.1
theorem iL.un {S : az_M} (h : iL S) : ∀ s, 0 ≤ s → s < 12 → S 7 s = 0 → S 8 s = 0 ∧ S 11 s = 0 ∧ S 13 s = 0 ∧ S 17 s = 5 ∧ (∀ i, 2 * s ≤ i → i < 2 * s + 2 → S 12 i = 0) ∧ (∀ i, 3 * s ≤ i → i < 3 * s + 3 → S 14 i = 0 ∧ S 15 i = 0 ∧ S 16 i = 0) := h.2.2.2.2.2.2.2.2.1
theorem iL.tn {S : az_M} (h : iL S) : S 100 0 = sp_sum (S 7) 12 := h.2.2.2.2.2.2.2.2.2
/-- nothing is held -/
def iv_e (S : az_M) (s : Int) : Prop := S 21 s = -1 ∧ S 22 s = -1 ∧ S 23 s = 0 ∧ S 20 s = 0 ∧ S 108 s = 0 ∧ S 109 (3 * s) = 0 ∧ S 109 (3 * s + 1) = 0 ∧ S 109 (3 * s + 2) = 0
/-- worked upon -/
def iv_wk (S : az_M) (loc : Int → Int) (s : Int) : Prop := ((0 ≤ S 21 s ∧ S 21 s < S 33 0) ∧ loc (S 21 s) = 20 + s) ∧ (S 8 s ≠ 4 → S 22 s = -1) ∧ (S 8 s = 4 → (0 ≤ S 22 s ∧ S 22 s < S 33 0) ∧ loc (S 22 s) = 20 + s ∧ S 21 s ≠ S 22 s) ∧ S 23 s = 0 ∧ S 20 s = 0 ∧ S 108 s = 0 ∧ S 109 (3 * s) = 0 ∧ S 109 (3 * s + 1) = 0 ∧ S 109 (3 * s + 2) = 0 ∧ (∀ i, 0 ≤ i → i < S 11 s → S 4 (S 12 (2 * s + i)) ≤ S 3 (S 12 (2 * s + i)))
/-- one of the pieces: its out, grams, grade -/
def iv_pc (S : az_M) (s i o : Int) : Prop := S 26 (3 * s + i) = o ∧ S 24 (3 * s + i) = S 109 (3 * s + o) ∧ S 25 (3 * s + i) = sp_hi S (S 21 s) o ∧ o < S 13 s
/-- ended: the parts -/
def iv_pt (S : az_M) (loc : Int → Int) (s : Int) : Prop := ((0 ≤ S 21 s ∧ S 21 s < S 33 0) ∧ loc (S 21 s) = 20 + s) ∧ S 22 s = -1 ∧ S 20 s = 1 ∧ (0 ≤ S 108 s ∧ S 108 s < S 13 s) ∧ S 26 (3 * s) = S 108 s ∧ S 24 (3 * s) = S 34 (S 21 s) ∧ S 25 (3 * s) = S 35 (S 21 s) ∧ S 109 (3 * s) = 0 ∧ (0 ≤ S 109 (3 * s + 1) ∧ 0 ≤ S 109 (3 * s + 2)) ∧ (0 < S 109 (3 * s + 1) ∨ 0 < S 109 (3 * s + 2) → S 108 s = 0) ∧
  ((S 109 (3 * s + 1) = 0 ∧ S 109 (3 * s + 2) = 0 ∧ S 23 s = 1) ∨ (0 < S 109 (3 * s + 1) ∧ S 109 (3 * s + 2) = 0 ∧ S 23 s = 2 ∧ iv_pc S s 1 1) ∨ (S 109 (3 * s + 1) = 0 ∧ 0 < S 109 (3 * s + 2) ∧ S 23 s = 2 ∧ iv_pc S s 1 2) ∨ (0 < S 109 (3 * s + 1) ∧ 0 < S 109 (3 * s + 2) ∧ S 23 s = 3 ∧ iv_pc S s 1 1 ∧ iv_pc S s 2 2))
/-- modes and loads -/
def iM (S : az_M) (loc : Int → Int) : Prop := (∀ s, 0 ≤ s → s < 12 → S 7 s = 1 → (S 18 s = 0 ∧ S 19 s = 0 ∧ iv_e S s) ∨ (S 18 s = 1 ∧ (1 ≤ S 19 s ∧ S 19 s ≤ 20) ∧ iv_wk S loc s) ∨ (S 18 s = 2 ∧ S 19 s = 0 ∧ iv_pt S loc s) ∨ (S 18 s = 3 ∧ (1 ≤ S 19 s ∧ S 19 s ≤ 30) ∧ iv_e S s) ∨ (S 18 s = 4 ∧ S 19 s = 0 ∧ (iv_e S s ∨ iv_pt S loc s))) ∧ (S 0 0 = 0 → ∀ s, 0 ≤ s → s < 12 → S 18 s = 0) ∧ (∀ s, 0 ≤ s → s < 12 → S 7 s = 0 → S 18 s = 0 ∧ S 19 s = 0 ∧ iv_e S s ∧ S 28 s = 0 ∧ S 32 s = 0 ∧ S 29 s = 0 ∧ S 30 s = 0 ∧ S 31 s = 0) ∧ (∀ s g, 0 ≤ s → s < 12 → 0 ≤ g → g ≤ 9 → (0 ≤ S 27 (10 * s + g) ∧ S 27 (10 * s + g) ≤ 50000) ∧ (S 7 s = 0 → S 27 (10 * s + g) = 0))
theorem iM.md {S : az_M} {loc : Int → Int} (h : iM S loc) : ∀ s, 0 ≤ s → s < 12 → S 7 s = 1 → (S 18 s = 0 ∧ S 19 s = 0 ∧ iv_e S s) ∨ (S 18 s = 1 ∧ (1 ≤ S 19 s ∧ S 19 s ≤ 20) ∧ iv_wk S loc s) ∨ (S 18 s = 2 ∧ S 19 s = 0 ∧ iv_pt S loc s) ∨ (S 18 s = 3 ∧ (1 ≤ S 19 s ∧ S 19 s ≤ 30) ∧ iv_e S s) ∨ (S 18 s = 4 ∧ S 19 s = 0 ∧ (iv_e S s ∨ iv_pt S loc s)) := h.1
theorem iM.m0 {S : az_M} {loc : Int → Int} (h : iM S loc) : S 0 0 = 0 → ∀ s, 0 ≤ s → s < 12 → S 18 s = 0 := h.2.1
theorem iM.mu {S : az_M} {loc : Int → Int} (h : iM S loc) : ∀ s, 0 ≤ s → s < 12 → S 7 s = 0 → S 18 s = 0 ∧ S 19 s = 0 ∧ iv_e S s ∧ S 28 s = 0 ∧ S 32 s = 0 ∧ S 29 s = 0 ∧ S 30 s = 0 ∧ S 31 s = 0 := h.2.2.1
theorem iM.le {S : az_M} {loc : Int → Int} (h : iM S loc) : ∀ s g, 0 ≤ s → s < 12 → 0 ≤ g → g ≤ 9 → (0 ≤ S 27 (10 * s + g) ∧ S 27 (10 * s + g) ≤ 50000) ∧ (S 7 s = 0 → S 27 (10 * s + g) = 0) := h.2.2.2
/-- plans and asides -/
def iP (S : az_M) (loc : Int → Int) : Prop := (iv_plans S) ∧ (∀ p, 0 ≤ p → p < 40 → 0 ≤ S 42 p ∧ S 42 p ≤ 1) ∧ (∀ p, S 38 0 ≤ p → p < 40 → S 42 p = 0) ∧ (∀ p, 0 ≤ p → p < S 38 0 → (0 ≤ S 39 p ∧ S 39 p < 12) ∧ S 7 (S 39 p) = 1 ∧ (S 42 p = 1 ↔ S 40 p ≤ S 28 (S 39 p))) ∧ (∀ p q, 0 ≤ p → p < q → q < S 38 0 → ¬ (S 39 p = S 39 q ∧ S 40 p = S 40 q)) ∧ (∀ s, 0 ≤ s → s < 12 → 0 ≤ S 28 s ∧ S 28 s ≤ S 2 0) ∧ (S 102 0 = sp_sum (S 42) 40) ∧ (0 ≤ S 43 0 ∧ S 43 0 ≤ 2 * S 102 0) ∧ (∀ i, 0 ≤ i → i < S 43 0 → (0 ≤ S 44 i ∧ S 44 i < S 33 0) ∧ loc (S 44 i) = 0 ∧ S 101 i = S 34 (S 44 i)) ∧ (∀ s, 0 ≤ s → s < 12 → -2147483648 ≤ S 32 s ∧ S 32 s < 2147483648)
theorem iP.pl {S : az_M} {loc : Int → Int} (h : iP S loc) : iv_plans S := h.1
theorem iP.pb {S : az_M} {loc : Int → Int} (h : iP S loc) : ∀ p, 0 ≤ p → p < 40 → 0 ≤ S 42 p ∧ S 42 p ≤ 1 := h.2.1
theorem iP.pz {S : az_M} {loc : Int → Int} (h : iP S loc) : ∀ p, S 38 0 ≤ p → p < 40 → S 42 p = 0 := h.2.2.1
theorem iP.ps {S : az_M} {loc : Int → Int} (h : iP S loc) : ∀ p, 0 ≤ p → p < S 38 0 → (0 ≤ S 39 p ∧ S 39 p < 12) ∧ S 7 (S 39 p) = 1 ∧ (S 42 p = 1 ↔ S 40 p ≤ S 28 (S 39 p)) := h.2.2.2.1
theorem iP.pd {S : az_M} {loc : Int → Int} (h : iP S loc) : ∀ p q, 0 ≤ p → p < q → q < S 38 0 → ¬ (S 39 p = S 39 q ∧ S 40 p = S 40 q) := h.2.2.2.2.1
theorem iP.en {S : az_M} {loc : Int → Int} (h : iP S loc) : ∀ s, 0 ≤ s → s < 12 → 0 ≤ S 28 s ∧ S 28 s ≤ S 2 0 := h.2.2.2.2.2.1
theorem iP.pc {S : az_M} {loc : Int → Int} (h : iP S loc) : S 102 0 = sp_sum (S 42) 40 := h.2.2.2.2.2.2.1
theorem iP.as {S : az_M} {loc : Int → Int} (h : iP S loc) : 0 ≤ S 43 0 ∧ S 43 0 ≤ 2 * S 102 0 := h.2.2.2.2.2.2.2.1
theorem iP.al {S : az_M} {loc : Int → Int} (h : iP S loc) : ∀ i, 0 ≤ i → i < S 43 0 → (0 ≤ S 44 i ∧ S 44 i < S 33 0) ∧ loc (S 44 i) = 0 ∧ S 101 i = S 34 (S 44 i) := h.2.2.2.2.2.2.2.2.1
theorem iP.fr {S : az_M} {loc : Int → Int} (h : iP S loc) : ∀ s, 0 ≤ s → s < 12 → -2147483648 ≤ S 32 s ∧ S 32 s < 2147483648 := h.2.2.2.2.2.2.2.2.2
/-- the grams that there can be at most -/
def mx (d : Int) : Int := if d < 500 then 1000 - d else 500
def ps_l (S : az_M) (loc : Int → Int) (l : Int) : Int := if loc l = 0 then 0 else S 34 l * mx (S 36 l)
def ps_s (S : az_M) (s : Int) : Int := if S 21 s = -1 then 0 else (S 109 (3 * s) + S 109 (3 * s + 1) + S 109 (3 * s + 2)) * mx (S 36 (S 21 s))
def ps_n (loc : Int → Int) (l : Int) : Int := if loc l = 0 then 0 else 1
def ps_b : Nat → Int
  | 0 => 100000000
  | D + 1 => ps_b D + ps_b D / 1000 + 1
def iQ (S : az_M) (loc : Int → Int) (D F : Nat) : Prop := (sp_sum (ps_l S loc) (S 33 0).toNat + sp_sum (ps_s S) 12 ≤ ps_b D * F) ∧ (D + sp_sum (ps_n loc) (S 33 0).toNat ≤ S 33 0) ∧ (F ≤ 512)
theorem iQ.q1 {S : az_M} {loc : Int → Int} {D F : Nat} (h : iQ S loc D F) : sp_sum (ps_l S loc) (S 33 0).toNat + sp_sum (ps_s S) 12 ≤ ps_b D * F := h.1
theorem iQ.q2 {S : az_M} {loc : Int → Int} {D F : Nat} (h : iQ S loc D F) : D + sp_sum (ps_n loc) (S 33 0).toNat ≤ S 33 0 := h.2.1
theorem iQ.q3 {S : az_M} {loc : Int → Int} {D F : Nat} (h : iQ S loc D F) : F ≤ 512 := h.2.2
def Inv (S : az_M) (loc : Int → Int) (D F : Nat) : Prop := (iA S) ∧ (iZ S) ∧ (iB S loc) ∧ (iL S) ∧ (iM S loc) ∧ (iP S loc) ∧ (iQ S loc D F)
theorem Inv.a {S : az_M} {loc : Int → Int} {D F : Nat} (h : Inv S loc D F) : iA S := h.1
theorem Inv.z {S : az_M} {loc : Int → Int} {D F : Nat} (h : Inv S loc D F) : iZ S := h.2.1
theorem Inv.b {S : az_M} {loc : Int → Int} {D F : Nat} (h : Inv S loc D F) : iB S loc := h.2.2.1
theorem Inv.l {S : az_M} {loc : Int → Int} {D F : Nat} (h : Inv S loc D F) : iL S := h.2.2.2.1
theorem Inv.m {S : az_M} {loc : Int → Int} {D F : Nat} (h : Inv S loc D F) : iM S loc := h.2.2.2.2.1
theorem Inv.p {S : az_M} {loc : Int → Int} {D F : Nat} (h : Inv S loc D F) : iP S loc := h.2.2.2.2.2.1
theorem Inv.q {S : az_M} {loc : Int → Int} {D F : Nat} (h : Inv S loc D F) : iQ S loc D F := h.2.2.2.2.2.2
section IvA
variable {S S1 : az_M} {loc : Int → Int} {D F : Nat}
theorem iA_cg (h : iA S) (hk : ∀ k i, k = 0 ∨ k = 1 ∨ k = 2 ∨ k = 33 → S1 k i = S k i) : iA S1 := by
  obtain ⟨a, b, c, d⟩ := h
  refine ⟨?_, ?_, ?_, ?_⟩
  · rw [hk 0 _ (by decide)]; exact a
  · rw [hk 1 _ (by decide)]; exact b
  · rw [hk 2 _ (by decide)]; exact c
  · rw [hk 33 _ (by decide)]; exact d
theorem iv_l_cg {l : Int} (h : iv_l S l) (hk : ∀ k i, k = 34 ∨ k = 35 ∨ k = 36 ∨ k = 37 → S1 k i = S k i) : iv_l S1 l := by
  unfold iv_l at h ⊢
  simp only [hk 34 _ (by decide), hk 35 _ (by decide), hk 36 _ (by decide), hk 37 _ (by decide)]
  exact h
theorem iZ_cg (h : iZ S) (hk : ∀ k i, k = 33 ∨ k = 34 ∨ k = 35 ∨ k = 36 ∨ k = 37 → S1 k i = S k i) : iZ S1 := by
  obtain ⟨a, b⟩ := h
  constructor
  · unfold iv_zl at a ⊢
    simp only [hk 33 _ (by decide), hk 34 _ (by decide), hk 35 _ (by decide), hk 36 _ (by decide), hk 37 _ (by decide)]
    exact a
  · intro l h1 h2
    rw [hk 33 _ (by decide)] at h2
    exact iv_l_cg (b l h1 h2) (fun k i q => hk k i (by omega))
theorem iB_cg (h : iB S loc) (hk : ∀ k i, k = 0 ∨ k = 3 ∨ k = 4 ∨ k = 5 ∨ k = 6 ∨ k = 33 → S1 k i = S k i) : iB S1 loc := by
  obtain ⟨a, b, c, d, e, f, g, g'⟩ := h
  refine ⟨?_, ?_, ?_, ?_, ?_, ?_, ?_, ?_⟩ <;> simp only [iv_r5, hk 0 _ (by decide), hk 3 _ (by decide), hk 4 _ (by decide), hk 5 _ (by decide), hk 6 _ (by decide), hk 33 _ (by decide)] <;> assumption
theorem iL_cg (h : iL S) (hk : ∀ k i, k = 0 ∨ k = 3 ∨ (7 ≤ k ∧ k ≤ 17) ∨ k = 100 → S1 k i = S k i) : iL S1 := by
  obtain ⟨a, b, c, d, e, f, g, g', u, t⟩ := h
  have e7 : S1 7 = S 7 := funext (fun i => hk 7 i (by decide))
  refine ⟨?_, ?_, ?_, ?_, ?_, ?_, ?_, ?_, ?_, ?_⟩ <;> simp only [iv_r12, iv_inb, iv_outs, sp_insOf, sp_outsOf, sp_shs, e7, hk 0 _ (by decide), hk 3 _ (by decide), hk 8 _ (by decide), hk 9 _ (by decide), hk 10 _ (by decide), hk 11 _ (by decide), hk 12 _ (by decide), hk 13 _ (by decide), hk 14 _ (by decide), hk 15 _ (by decide), hk 16 _ (by decide), hk 17 _ (by decide), hk 100 _ (by decide)] <;> assumption
theorem iv_e_cg {s : Int} (h : iv_e S s) (hk : ∀ k i, (20 ≤ k ∧ k ≤ 23) ∨ k = 108 ∨ k = 109 → S1 k i = S k i) : iv_e S1 s := by
  unfold iv_e at h ⊢
  simp only [hk 20 _ (by decide), hk 21 _ (by decide), hk 22 _ (by decide), hk 23 _ (by decide), hk 108 _ (by decide), hk 109 _ (by decide)]
  exact h
theorem iv_pt_cg {s : Int} (h : iv_pt S loc s) (hk : ∀ k i, k = 13 ∨ k = 33 ∨ k = 34 ∨ k = 35 ∨ (20 ≤ k ∧ k ≤ 26) ∨ k = 108 ∨ k = 109 → S1 k i = S k i) : iv_pt S1 loc s := by
  unfold iv_pt iv_pc sp_hi at h ⊢
  simp only [hk 13 _ (by decide), hk 33 _ (by decide), hk 34 _ (by decide), hk 35 _ (by decide), hk 20 _ (by decide), hk 21 _ (by decide), hk 22 _ (by decide), hk 23 _ (by decide), hk 24 _ (by decide), hk 25 _ (by decide), hk 26 _ (by decide), hk 108 _ (by decide), hk 109 _ (by decide)]
  exact h
theorem iv_wk_cg {s : Int} (h : iv_wk S loc s) (hk : ∀ k i, k = 3 ∨ k = 4 ∨ k = 8 ∨ k = 11 ∨ k = 12 ∨ k = 33 ∨ (20 ≤ k ∧ k ≤ 23) ∨ k = 108 ∨ k = 109 → S1 k i = S k i) : iv_wk S1 loc s := by
  unfold iv_wk at h ⊢
  simp only [hk 3 _ (by decide), hk 4 _ (by decide), hk 8 _ (by decide), hk 11 _ (by decide), hk 12 _ (by decide), hk 33 _ (by decide), hk 20 _ (by decide), hk 21 _ (by decide), hk 22 _ (by decide), hk 23 _ (by decide), hk 108 _ (by decide), hk 109 _ (by decide)]
  exact h
theorem iM_cg (h : iM S loc) (hk : ∀ k i, k = 0 ∨ k = 3 ∨ k = 4 ∨ k = 7 ∨ k = 8 ∨ k = 11 ∨ k = 12 ∨ k = 13 ∨ (18 ≤ k ∧ k ≤ 35) ∨ k = 108 ∨ k = 109 → S1 k i = S k i) : iM S1 loc := by
  obtain ⟨a, b, c, d⟩ := h
  refine ⟨?_, ?_, ?_, ?_⟩
  · intro s s1 s2 s3
    rw [hk 7 _ (by decide)] at s3
    rw [hk 18 _ (by decide), hk 19 _ (by decide)]
    rcases a s s1 s2 s3 with ⟨x, y, q⟩ | ⟨x, y, q⟩ | ⟨x, y, q⟩ | ⟨x, y, q⟩ | ⟨x, y, q⟩
    · exact Or.inl ⟨x, y, iv_e_cg q (fun k i z => hk k i (by omega))⟩
    · exact Or.inr (Or.inl ⟨x, y, iv_wk_cg q (fun k i z => hk k i (by omega))⟩)
    · exact Or.inr (Or.inr (Or.inl ⟨x, y, iv_pt_cg q (fun k i z => hk k i (by omega))⟩))
    · exact Or.inr (Or.inr (Or.inr (Or.inl ⟨x, y, iv_e_cg q (fun k i z => hk k i (by omega))⟩)))
    · refine Or.inr (Or.inr (Or.inr (Or.inr ⟨x, y, ?_⟩)))
      rcases q with q | q
      · exact Or.inl (iv_e_cg q (fun k i z => hk k i (by omega)))
      · exact Or.inr (iv_pt_cg q (fun k i z => hk k i (by omega)))
  · rw [hk 0 _ (by decide)]
    intro q s s1 s2
    rw [hk 18 _ (by decide)]
    exact b q s s1 s2
  · intro s s1 s2 s3
    rw [hk 7 _ (by decide)] at s3
    have q := c s s1 s2 s3
    refine ⟨?_, ?_, iv_e_cg q.2.2.1 (fun k i z => hk k i (by omega)), ?_⟩
    · rw [hk 18 _ (by decide)]; exact q.1
    · rw [hk 19 _ (by decide)]; exact q.2.1
    · rw [hk 28 _ (by decide), hk 32 _ (by decide), hk 29 _ (by decide), hk 30 _ (by decide), hk 31 _ (by decide)]
      exact q.2.2.2
  · intro s g
    rw [hk 27 _ (by decide), hk 7 _ (by decide)]
    exact d s g
theorem iP_cg (h : iP S loc) (hk : ∀ k i, k = 2 ∨ k = 7 ∨ k = 28 ∨ k = 32 ∨ k = 33 ∨ k = 34 ∨ (38 ≤ k ∧ k ≤ 44) ∨ k = 101 ∨ k = 102 → S1 k i = S k i) : iP S1 loc := by
  obtain ⟨a, b, b', c, d, e, f, g, g', g2⟩ := h
  have e42 : S1 42 = S 42 := funext (fun i => hk 42 i (by decide))
  refine ⟨?_, ?_, ?_, ?_, ?_, ?_, ?_, ?_, ?_, ?_⟩ <;> simp only [iv_plans, e42, hk 2 _ (by decide), hk 7 _ (by decide), hk 28 _ (by decide), hk 32 _ (by decide), hk 33 _ (by decide), hk 34 _ (by decide), hk 38 _ (by decide), hk 39 _ (by decide), hk 40 _ (by decide), hk 41 _ (by decide), hk 43 _ (by decide), hk 44 _ (by decide), hk 101 _ (by decide), hk 102 _ (by decide)] <;> assumption
theorem iQ_cg (h : iQ S loc D F) (hk : ∀ k i, k = 21 ∨ k = 33 ∨ k = 34 ∨ k = 36 ∨ k = 109 → S1 k i = S k i) : iQ S1 loc D F := by
  obtain ⟨a, b, c⟩ := h
  have e1 : ps_l S1 loc = ps_l S loc := by
    funext l
    unfold ps_l
    rw [hk 34 _ (by decide), hk 36 _ (by decide)]
  have e2 : ps_s S1 = ps_s S := by
    funext l
    unfold ps_s
    rw [hk 21 _ (by decide), hk 109 _ (by decide), hk 109 _ (by decide), hk 109 _ (by decide), hk 36 _ (by decide)]
  refine ⟨?_, ?_, ?_⟩
  · rw [e1, e2, hk 33 _ (by decide)]; exact a
  · rw [hk 33 _ (by decide)]; exact b
  · exact c
end IvA
