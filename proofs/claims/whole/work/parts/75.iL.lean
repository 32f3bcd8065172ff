-- deps: 30.mK 31.mL 32.mM 34.mN 37.mQ 38.mR 39.mS 43.cls 44.sta 44.stb 44.stc 44.std 45.cA 46.cB 47.cC 48.cD 49.cE 50.cF 54.cI 55.cJ 58.cM 59.cN 43.raw 51.cG 53.cH 56.cK 57.cL 52.cG2 60.cO 61.cP 62.cQ 64.iA 65.iB 66.iC 67.iD 68.iE 69.iF 70.iG 72.iI 34.mN2 34.mN3 35.mO 36.mP 33.mM2
/-! ===== a working ends: what the rest keeps ===== -/
section IvL
variable {S U : az_M} {loc loc' : Int → Int} {D D' F : Nat} {s : Int}
/-- what may change -/
def wk_k (k : Nat) : Prop := (18 ≤ k ∧ k ≤ 28) ∨ k = 32 ∨ (34 ≤ k ∧ k ≤ 37) ∨ (42 ≤ k ∧ k ≤ 53) ∨ k = 101 ∨ k = 102 ∨ k = 108 ∨ k = 109
def iW (S U : az_M) (s : Int) : Prop := (∀ k i, ¬ wk_k k → U k i = S k i) ∧ (∀ k i, i ≠ s → k = 18 ∨ k = 19 ∨ k = 20 ∨ k = 21 ∨ k = 22 ∨ k = 23 ∨ k = 28 ∨ k = 32 ∨ k = 108 → U k i = S k i) ∧ (∀ k i, i < 3 * s ∨ 3 * s + 2 < i → k = 24 ∨ k = 25 ∨ k = 26 ∨ k = 109 → U k i = S k i) ∧ (∀ i, i < 10 * s ∨ 10 * s + 9 < i → U 27 i = S 27 i) ∧ (∀ x, x ≠ S 21 s → U 34 x = S 34 x ∧ U 35 x = S 35 x ∧ U 36 x = S 36 x ∧ ∀ j, 0 ≤ j → j ≤ 3 → U 37 (4 * x + j) = S 37 (4 * x + j))
theorem iW.ku {S U : az_M} {s : Int} (h : iW S U s) : ∀ k i, ¬ wk_k k → U k i = S k i := h.1
theorem iW.ks {S U : az_M} {s : Int} (h : iW S U s) : ∀ k i, i ≠ s → k = 18 ∨ k = 19 ∨ k = 20 ∨ k = 21 ∨ k = 22 ∨ k = 23 ∨ k = 28 ∨ k = 32 ∨ k = 108 → U k i = S k i := h.2.1
theorem iW.k3 {S U : az_M} {s : Int} (h : iW S U s) : ∀ k i, i < 3 * s ∨ 3 * s + 2 < i → k = 24 ∨ k = 25 ∨ k = 26 ∨ k = 109 → U k i = S k i := h.2.2.1
theorem iW.k27 {S U : az_M} {s : Int} (h : iW S U s) : ∀ i, i < 10 * s ∨ 10 * s + 9 < i → U 27 i = S 27 i := h.2.2.2.1
theorem iW.kl {S U : az_M} {s : Int} (h : iW S U s) : ∀ x, x ≠ S 21 s → U 34 x = S 34 x ∧ U 35 x = S 35 x ∧ U 36 x = S 36 x ∧ ∀ j, 0 ≤ j → j ≤ 3 → U 37 (4 * x + j) = S 37 (4 * x + j) := h.2.2.2.2
theorem Inv.work (h : Inv S loc D F) (h0 : S 0 0 = 1) (h1 : 0 ≤ s) (h2 : s < 12) (c : S 7 s = 1) (m : S 18 s = 1) (w : iW S U s) (lL : iv_l U (S 21 s)) (hl : ∀ x, x ≠ S 21 s → x ≠ S 22 s → loc' x = loc x) (hs : iv_md U loc' s (U 18 s) (U 19 s)) (h27 : ∀ g, 0 ≤ g → g ≤ 9 → 0 ≤ U 27 (10 * s + g) ∧ U 27 (10 * s + g) ≤ 50000) (hp : iP U loc') (hq : iQ U loc' D' F) : Inv U loc' D' F := by
  have g33 := h.a.g33
  have wk := (h.wk s h1 h2 c m).2
  have h7 := h.l.s7 s h1 h2
  obtain ⟨ku, ks, k3, k27, kl⟩ := w
  have K : ∀ (k : Nat) (i : Int), k ≤ 17 ∨ (29 ≤ k ∧ k ≤ 31) ∨ k = 33 ∨ k = 100 → U k i = S k i := fun k i q => ku k i (by unfold wk_k; omega)
  have f1 := wk.1
  have f2 := iv_second h.m s h1 h2 h7
  have keep : ∀ x, loc x ≠ 20 + s → 0 ≤ x → loc' x = loc x := fun x q x0 => hl x (fun e => q (by rw [e]; exact f1.2)) (fun e => by
    rcases f2 with y | y
    · omega
    · exact q (by rw [e]; exact y.2.1))
  refine ⟨iA_cg h.a (fun k i q => K k i (by omega)), ⟨fun i hi => ?_, fun x x1 x2 => ?_⟩, ?_, iL_cg h.l (fun k i q => K k i (by omega)), ⟨fun t t1 t2 t3 => ?_, fun q => ?_, fun t t1 t2 t3 => ?_, fun t g t1 t2 t3 t4 => ?_⟩, hp, hq⟩
  · rw [K 33 _ (by decide)] at hi
    have q := h.z.zl i hi
    have y := kl i (by omega)
    have y0 := y.2.2.2 0 (by decide) (by decide)
    rw [Int.add_zero] at y0
    rw [y.1, y.2.1, y.2.2.1, y0, y.2.2.2 1 (by decide) (by decide), y.2.2.2 2 (by decide) (by decide), y.2.2.2 3 (by decide) (by decide)]
    exact q
  · rw [K 33 _ (by decide)] at x2
    by_cases e : x = S 21 s
    · rw [e]; exact lL
    · have y := kl x e
      have y0 := y.2.2.2 0 (by decide) (by decide)
      rw [Int.add_zero] at y0
      unfold iv_l
      rw [y.1, y.2.1, y.2.2.1, y0, y.2.2.2 1 (by decide) (by decide), y.2.2.2 2 (by decide) (by decide), y.2.2.2 3 (by decide) (by decide)]
      exact h.z.lo x x1 x2
  · have hb : iB S loc' := by
      obtain ⟨a1, a2, a3, a4, a5, a6, a7, a8⟩ := h.b
      exact ⟨a1, a2, a3, a4, fun b i b1 b2 i1 i2 => by
        have q := a5 b i b1 b2 i1 i2
        rw [keep _ (by omega) q.1.1]
        exact q, a6, a7, a8⟩
    exact iB_cg hb (fun k i q => K k i (by omega))
  · rw [K 7 _ (by decide)] at t3
    by_cases e : t = s
    · rw [e]; exact hs
    · rw [ks 18 t e (by decide), ks 19 t e (by decide)]
      have u109 : ∀ i, 0 ≤ i → i < 3 → U 109 (3 * t + i) = S 109 (3 * t + i) := fun i _ _ => k3 109 _ (by omega) (by decide)
      have ll : ∀ x, 0 ≤ x → x < S 33 0 → loc x = 20 + t → loc' x = 20 + t := fun x x1 _ x3 => by
        rw [keep x (by omega) x1]
        exact x3
      have ee : iv_e S t → iv_e U t := fun q => iv_e_fr q (ks 21 t e (by decide)) (ks 22 t e (by decide)) (ks 23 t e (by decide)) (ks 20 t e (by decide)) (ks 108 t e (by decide)) u109
      have pp : iv_pt S loc t → iv_pt U loc' t := fun q => by
        have n : S 21 t ≠ S 21 s := fun y => by
          have := q.1.2
          rw [y, f1.2] at this
          omega
        exact iv_pt_fr q (ks 21 t e (by decide)) (ks 22 t e (by decide)) (ks 23 t e (by decide)) (ks 20 t e (by decide)) (ks 108 t e (by decide)) (fun i i1 i2 => ⟨u109 i i1 i2, k3 24 _ (by omega) (by decide), k3 25 _ (by omega) (by decide), k3 26 _ (by omega) (by decide)⟩) (K 13 _ (by decide)) (by rw [K 33 _ (by decide)]; omega) (fun y => ll _ q.1.1.1 q.1.1.2 y) (kl _ n).1 (kl _ n).2.1
      have ww : iv_wk S loc t → iv_wk U loc' t := fun q => by
        refine iv_wk_fr q (ks 21 t e (by decide)) (ks 22 t e (by decide)) (ks 23 t e (by decide)) (ks 20 t e (by decide)) (ks 108 t e (by decide)) u109 (K 8 _ (by decide)) (by rw [K 33 _ (by decide)]; omega) ll (fun i i1 i2 => ?_)
        rw [K 11 _ (by decide)] at i2
        rw [K 12 _ (by decide), K 3 _ (by decide), K 4 _ (by decide)]
        exact q.2.2.2.2.2.2.2.2.2 i i1 i2
      rcases h.m.md t t1 t2 t3 with ⟨x, y, q⟩ | ⟨x, y, q⟩ | ⟨x, y, q⟩ | ⟨x, y, q⟩ | ⟨x, y, q⟩
      · exact Or.inl ⟨x, y, ee q⟩
      · exact Or.inr (Or.inl ⟨x, y, ww q⟩)
      · exact Or.inr (Or.inr (Or.inl ⟨x, y, pp q⟩))
      · exact Or.inr (Or.inr (Or.inr (Or.inl ⟨x, y, ee q⟩)))
      · exact Or.inr (Or.inr (Or.inr (Or.inr ⟨x, y, q.elim (fun q => Or.inl (ee q)) (fun q => Or.inr (pp q))⟩)))
  · rw [K 0 _ (by decide)] at q; omega
  · rw [K 7 _ (by decide)] at t3
    have e : t ≠ s := fun q => by rw [q] at t3; omega
    have q := h.m.mu t t1 t2 t3
    have u109 : ∀ i, 0 ≤ i → i < 3 → U 109 (3 * t + i) = S 109 (3 * t + i) := fun i _ _ => k3 109 _ (by omega) (by decide)
    rw [ks 18 t e (by decide), ks 19 t e (by decide), ks 28 t e (by decide), ks 32 t e (by decide), K 29 _ (by decide), K 30 _ (by decide), K 31 _ (by decide)]
    exact ⟨q.1, q.2.1, iv_e_fr q.2.2.1 (ks 21 t e (by decide)) (ks 22 t e (by decide)) (ks 23 t e (by decide)) (ks 20 t e (by decide)) (ks 108 t e (by decide)) u109, q.2.2.2⟩
  · rw [K 7 _ (by decide)]
    by_cases e : t = s
    · rw [e]
      exact ⟨h27 g t3 t4, fun q => by omega⟩
    · rw [k27 _ (by omega)]
      exact h.m.le t g t1 t2 t3 t4
/-- no plan is met -/
theorem iP_end (h : Inv S loc D F) (h1 : 0 ≤ s) (h2 : s < 12) (c : S 7 s = 1) (m : S 18 s = 1) (w : iW S U s) (hl : ∀ x, x ≠ S 21 s → x ≠ S 22 s → loc' x = loc x) (h28 : U 28 s = S 28 s + 1) (hb : S 28 s < S 2 0) (kp : ∀ k i, k = 42 ∨ k = 43 ∨ k = 44 ∨ k = 101 ∨ k = 102 → U k i = S k i) (h32 : -2147483648 ≤ U 32 s ∧ U 32 s < 2147483648) (hn : ∀ q, 0 ≤ q → q < S 38 0 → ¬ (S 39 q = s ∧ S 40 q = S 28 s + 1)) : iP U loc' := by
  have h7 := h.l.s7 s h1 h2
  have wk := (h.wk s h1 h2 c m).2
  have f2 := iv_second h.m s h1 h2 h7
  obtain ⟨ku, ks, k3, k27, kl⟩ := w
  have K : ∀ (k : Nat) (i : Int), k ≤ 17 ∨ (29 ≤ k ∧ k ≤ 31) ∨ k = 33 ∨ (38 ≤ k ∧ k ≤ 41) ∨ k = 100 → U k i = S k i := fun k i q => ku k i (by unfold wk_k; omega)
  obtain ⟨a1, b1, b1', d1, e1, g1, i1, j1, l1, m1⟩ := h.p
  have e42 : U 42 = S 42 := funext (fun i => kp 42 i (by decide))
  have f28 : ∀ i, U 28 i = if i = s then S 28 s + 1 else S 28 i := fun i => by
    split
    · rename_i e; rw [e, h28]
    · rename_i e; exact ks 28 i e (by decide)
  refine ⟨?_, by rw [e42]; exact b1, ?_, fun p p1 p2 => ?_, ?_, fun t t1 t2 => ?_, ?_, ?_, fun i x1 x2 => ?_, fun t t1 t2 => ?_⟩
  · simp only [iv_plans, K 38 _ (by decide), K 39 _ (by decide), K 40 _ (by decide), K 41 _ (by decide)]; exact a1
  · simp only [e42, K 38 _ (by decide)]; exact b1'
  · rw [K 38 _ (by decide)] at p2
    have q := d1 p p1 p2
    rw [K 39 _ (by decide), K 7 _ (by decide), e42, K 40 _ (by decide), f28]
    refine ⟨q.1, q.2.1, ?_⟩
    split
    · rename_i e
      have n := hn p p1 p2
      rw [e] at q
      omega
    · exact q.2.2
  · simp only [K 38 _ (by decide), K 39 _ (by decide), K 40 _ (by decide)]; exact e1
  · rw [f28, K 2 _ (by decide)]
    have := g1 t t1 t2
    split
    · rename_i e
      rw [e] at this
      omega
    · exact this
  · rw [e42, kp 102 _ (by decide)]; exact i1
  · rw [kp 43 _ (by decide), kp 102 _ (by decide)]; exact j1
  · rw [kp 43 _ (by decide)] at x2
    have q := l1 i x1 x2
    have n1 : S 44 i ≠ S 21 s := fun e => by
      have := q.2.1
      rw [e, wk.1.2] at this
      omega
    have n2 : S 44 i ≠ S 22 s := fun e => by
      rcases f2 with y | y
      · omega
      · have := q.2.1
        rw [e, y.2.1] at this
        omega
    rw [kp 44 _ (by decide), K 33 _ (by decide), kp 101 _ (by decide), (kl _ n1).1, hl _ n1 n2]
    exact q
  · by_cases e : t = s
    · rw [e]; exact h32
    · rw [ks 32 t e (by decide)]; exact m1 t t1 t2
/-- the sums, when one lot is worked upon -/
theorem iQ_one (h : Inv S loc D F) (h1 : 0 ≤ s) (h2 : s < 12) (c : S 7 s = 1) (m : S 18 s = 1) (h22 : S 22 s = -1) (w : iW S U s) (hl : ∀ x, x ≠ S 21 s → x ≠ S 22 s → loc' x = loc x) (hle : ps_l U loc' (S 21 s) + ps_s U s ≤ ps_l S loc (S 21 s)) : iQ U loc' D F := by
  have g33 := h.a.g33
  have wk := (h.wk s h1 h2 c m).2
  have f1 := wk.1
  have h7 := h.l.s7 s h1 h2
  obtain ⟨ku, ks, k3, k27, kl⟩ := w
  have K33 : U 33 0 = S 33 0 := ku 33 0 (by unfold wk_k; decide)
  have cast : (((S 33 0).toNat : Nat) : Int) = S 33 0 := by omega
  have e1 := sm_up (g := ps_l S loc) (h := ps_l U loc') (S 21 s) (S 33 0).toNat f1.1.1 (by omega) (fun j j1 j2 n => by
    unfold ps_l
    rw [hl j n (by omega), (kl j n).1, (kl j n).2.2.1])
  have e2 := sm_up (g := ps_s S) (h := ps_s U) s 12 h1 h2 (fun j j1 j2 n => by
    have w := iv_first h.m j j1 (by omega) (h.l.s7 j j1 (by omega))
    have z := k3 109 (3 * j) (by omega) (by decide)
    unfold ps_s
    rw [ks 21 j n (by decide), z, k3 109 _ (by omega) (by decide), k3 109 _ (by omega) (by decide)]
    split
    · rfl
    · rename_i c
      have w := w.resolve_left c
      have ne : S 21 j ≠ S 21 s := fun y => by
        have := w.2
        rw [y, f1.2] at this
        omega
      rw [(kl _ ne).2.2.1])
  have z0 : ps_s S s = 0 := by
    obtain ⟨-, -, -, -, -, -, a, b, d, -⟩ := wk
    unfold ps_s
    rw [a, b, d]
    simp
  have e3 := sm_up (g := ps_n loc) (h := ps_n loc') (S 21 s) (S 33 0).toNat f1.1.1 (by omega) (fun j j1 j2 n => by
    unfold ps_n
    rw [hl j n (by omega)])
  have n1 : ps_n loc (S 21 s) = 1 := by unfold ps_n; rw [if_neg (by omega)]
  have n2 : ps_n loc' (S 21 s) ≤ 1 := by unfold ps_n; split <;> omega
  have q1 := h.q.q1
  have q2 := h.q.q2
  refine ⟨?_, ?_, h.q.q3⟩
  · rw [K33]
    omega
  · rw [K33]
    omega
/-- the sums, when two lots become one -/
theorem iQ_two (h : Inv S loc D F) (h1 : 0 ≤ s) (h2 : s < 12) (c : S 7 s = 1) (m : S 18 s = 1) (h22 : S 22 s ≠ -1) (w : iW S U s) (hl : ∀ x, x ≠ S 21 s → x ≠ S 22 s → loc' x = loc x) (hle : 1000 * (ps_l U loc' (S 21 s) + ps_s U s) ≤ 1001 * (ps_l S loc (S 21 s) + ps_l S loc (S 22 s))) (hd : loc' (S 22 s) = 0) : iQ U loc' (D + 1) F := by
  have g33 := h.a.g33
  have wk := (h.wk s h1 h2 c m).2
  have f1 := wk.1
  have h7 := h.l.s7 s h1 h2
  have f2 := (iv_second h.m s h1 h2 h7).resolve_left h22
  obtain ⟨ku, ks, k3, k27, kl⟩ := w
  have K33 : U 33 0 = S 33 0 := ku 33 0 (by unfold wk_k; decide)
  have e1 := sm_up (g := ps_l S loc) (h := fun j => if j = S 22 s then ps_l S loc (S 22 s) else ps_l U loc' j) (S 21 s) (S 33 0).toNat f1.1.1 (by omega) (fun j j1 j2 n => by
    split
    · rename_i e; rw [e]
    · rename_i e
      unfold ps_l
      rw [hl j n e, (kl j n).1, (kl j n).2.2.1])
  have e1' := sm_up (g := fun j => if j = S 22 s then ps_l S loc (S 22 s) else ps_l U loc' j) (h := ps_l U loc') (S 22 s) (S 33 0).toNat f2.1.1 (by omega) (fun j j1 j2 n => by
    rw [if_neg n])
  rw [if_neg f2.2.2.1] at e1
  rw [if_pos rfl] at e1'
  have d0 : ps_l U loc' (S 22 s) = 0 := by unfold ps_l; rw [if_pos hd]
  have e2 := sm_up (g := ps_s S) (h := ps_s U) s 12 h1 h2 (fun j j1 j2 n => by
    have w := iv_first h.m j j1 (by omega) (h.l.s7 j j1 (by omega))
    have z := k3 109 (3 * j) (by omega) (by decide)
    unfold ps_s
    rw [ks 21 j n (by decide), z, k3 109 _ (by omega) (by decide), k3 109 _ (by omega) (by decide)]
    split
    · rfl
    · rename_i c
      have w := w.resolve_left c
      have ne : S 21 j ≠ S 21 s := fun y => by
        have := w.2
        rw [y, f1.2] at this
        omega
      rw [(kl _ ne).2.2.1])
  have z0 : ps_s S s = 0 := by
    obtain ⟨-, -, -, -, -, -, a, b, d, -⟩ := wk
    unfold ps_s
    rw [a, b, d]
    simp
  have e3 := sm_up (g := ps_n loc) (h := fun j => if j = S 22 s then 1 else ps_n loc' j) (S 21 s) (S 33 0).toNat f1.1.1 (by omega) (fun j j1 j2 n => by
    split
    · rename_i e
      rw [e]
      unfold ps_n
      rw [if_neg (by omega)]
    · rename_i e
      unfold ps_n
      rw [hl j n e])
  have e3' := sm_up (g := fun j => if j = S 22 s then 1 else ps_n loc' j) (h := ps_n loc') (S 22 s) (S 33 0).toNat f2.1.1 (by omega) (fun j j1 j2 n => by
    rw [if_neg n])
  rw [if_neg f2.2.2.1] at e3
  rw [if_pos rfl] at e3'
  have n1 : ps_n loc (S 21 s) = 1 := by unfold ps_n; rw [if_neg (by omega)]
  have n2 : ps_n loc' (S 21 s) ≤ 1 := by unfold ps_n; split <;> omega
  have n3 : ps_n loc' (S 22 s) = 0 := by unfold ps_n; rw [if_pos hd]
  have pa := ps_all h
  have q1 := h.q.q1
  have q2 := h.q.q2
  have tot := sm_ge2 (g := ps_l S loc) (S 21 s) (S 22 s) (S 33 0).toNat f1.1.1 (by omega) f2.1.1 (by omega) f2.2.2.1 (fun j a b => (ps_l_0 h.z j a (by omega)).1)
  have p1 := (ps_l_0 (loc := loc) h.z _ f1.1.1 f1.1.2).1
  have p2 := (ps_l_0 (loc := loc) h.z _ f2.1.1 f2.1.2).1
  have bD := ps_b_0 D
  have eB : ps_b (D + 1) = ps_b D + ps_b D / 1000 + 1 := rfl
  -- 1000 * total' <= 1001 * total <= 1001 * b D * F <= 1000 * b (D + 1) * F
  have k1 : 1001 * ps_b D ≤ 1000 * ps_b (D + 1) := by omega
  have k2 : 1001 * ps_b D * (F : Int) ≤ 1000 * ps_b (D + 1) * (F : Int) := Int.mul_le_mul_of_nonneg_right k1 (by omega)
  rw [Int.mul_assoc, Int.mul_assoc] at k2
  refine ⟨?_, ?_, h.q.q3⟩
  · rw [K33]
    omega
  · rw [K33]
    omega
end IvL
