-- deps: 30.mK 31.mL 32.mM 34.mN 37.mQ 38.mR 39.mS 43.cls 44.sta 44.stb 44.stc 44.std 45.cA 46.cB 47.cC 48.cD 49.cE 50.cF 54.cI 55.cJ 58.cM 59.cN 43.raw 51.cG 53.cH 56.cK 57.cL 52.cG2 60.cO 62.cQ 64.iA 65.iB 66.iC 34.mN2 34.mN3 35.mO 36.mP 33.mM2
/-! ===== the invariant is kept: telling the layout ===== -/
section IvD
variable {S : az_M} {loc : Int → Int} {D F : Nat} {s b : Int}
theorem Inv.bin (h : Inv S loc D F) {x : Int} (hc : sp_binC S b x) : Inv (az_up S 3 b x) loc D F := by
  obtain ⟨c0, c1, c2, c3⟩ := hc
  have k : ∀ (k : Nat) (i : Int), k ≠ 3 → az_up S 3 b x k i = S k i := fun k i a => az_up_kn a
  have e3 : ∀ i, az_up S 3 b x 3 i = if i = b then x else S 3 i := fun i => az_up_at
  have mono : ∀ i, 0 < S 3 i → 0 < az_up S 3 b x 3 i := fun i q => by
    rw [e3]
    split <;> omega
  refine ⟨iA_cg h.a (fun k1 i q => k k1 i (by omega)), iZ_cg h.z (fun k1 i q => k k1 i (by omega)), ?_, ?_, ?_, iP_cg h.p (fun k1 i q => k k1 i (by omega)), iQ_cg h.q (fun k1 i q => k k1 i (by omega))⟩
  · obtain ⟨a1, a2, a3, a4, a5, a6, a7, a8⟩ := h.b
    refine ⟨fun b1 b2 b3 => ?_, fun b1 b2 b3 => ?_, fun b1 b2 b3 => ?_, fun i i1 i2 => ?_, fun b1 i b2 b3 b4 b5 => ?_, fun b1 i j b2 b3 b4 b5 b6 => ?_, fun q i i1 i2 => ?_, fun q b1 b2 b3 => ?_⟩
    · rw [e3]
      have := a1 b1 b2 b3
      split <;> omega
    · have q1 := a8 c0 b1 b2 b3
      have q2 := a2 b1 b2 b3
      rw [e3, k 4 _ (by decide), k 6 _ (by decide)]
      split <;> omega
    · rw [k 6 _ (by decide)]; exact a3 b1 b2 b3
    · rw [k 5 _ (by decide)]; exact a4 i i1 i2
    · rw [k 4 _ (by decide)] at b5
      rw [k 5 _ (by decide), k 33 _ (by decide)]
      exact a5 b1 i b2 b3 b4 b5
    · rw [k 4 _ (by decide)] at b6
      rw [k 5 _ (by decide), k 5 _ (by decide)]
      exact a6 b1 i j b2 b3 b4 b5 b6
    · rw [k 5 _ (by decide)]; exact a7 c0 i i1 i2
    · rw [k 4 _ (by decide), k 6 _ (by decide)]; exact a8 c0 b1 b2 b3
  · have h1 : iL S := h.l
    obtain ⟨a, b', c, d, e, f, g, g', u, t⟩ := h1
    have e7 : az_up S 3 b x 7 = S 7 := funext (fun i => k 7 i (by decide))
    have fe : ∀ s, 0 ≤ s → s < 12 → S 7 s = 1 → iv_inb (az_up S 3 b x) s ∧ iv_outs (az_up S 3 b x) s := fun s s1 s2 s3 => by
      obtain ⟨q1, q2⟩ := e s s1 s2 s3
      refine ⟨⟨?_, fun i i1 i2 => ?_⟩, ⟨?_, fun i i1 i2 => ?_⟩⟩
      · rw [k 11 _ (by decide)]; exact q1.1
      · rw [k 11 _ (by decide)] at i2
        have := q1.2 i i1 i2
        rw [k 12 _ (by decide)]
        exact ⟨this.1, mono _ this.2⟩
      · rw [k 13 _ (by decide)]; exact q2.1
      · rw [k 13 _ (by decide)] at i2
        have := q2.2 i i1 i2
        rw [k 14 _ (by decide)]
        exact ⟨this.1, mono _ this.2⟩
    refine ⟨?_, ?_, ?_, ?_, ?_, ?_, ?_, ?_, ?_, ?_⟩ <;> simp only [iv_r12, sp_insOf, sp_outsOf, sp_shs, e7, k 0 _ (by decide), k 8 _ (by decide), k 9 _ (by decide), k 10 _ (by decide), k 11 _ (by decide), k 12 _ (by decide), k 13 _ (by decide), k 14 _ (by decide), k 15 _ (by decide), k 16 _ (by decide), k 17 _ (by decide), k 100 _ (by decide)] <;> assumption
  · obtain ⟨a1, a2, a3, a4⟩ := h.m
    refine ⟨fun s s1 s2 s3 => ?_, fun q s s1 s2 => ?_, fun s s1 s2 s3 => ?_, fun s g s1 s2 s3 s4 => ?_⟩
    · rw [k 7 _ (by decide)] at s3
      rw [k 18 _ (by decide), k 19 _ (by decide)]
      have z := a2 c0 s s1 s2
      rcases a1 s s1 s2 s3 with ⟨x1, y, q⟩ | ⟨x1, y, q⟩ | ⟨x1, y, q⟩ | ⟨x1, y, q⟩ | ⟨x1, y, q⟩
      · exact Or.inl ⟨x1, y, iv_e_cg q (fun k1 i w => k k1 i (by omega))⟩
      · omega
      · omega
      · omega
      · omega
    · rw [k 18 _ (by decide)]; exact a2 c0 s s1 s2
    · rw [k 7 _ (by decide)] at s3
      have q := a3 s s1 s2 s3
      rw [k 18 _ (by decide), k 19 _ (by decide), k 28 _ (by decide), k 32 _ (by decide), k 29 _ (by decide), k 30 _ (by decide), k 31 _ (by decide)]
      exact ⟨q.1, q.2.1, iv_e_cg q.2.2.1 (fun k1 i w => k k1 i (by omega)), q.2.2.2⟩
    · rw [k 27 _ (by decide), k 7 _ (by decide)]; exact a4 s g s1 s2 s3 s4
theorem Inv.s0 (h : Inv S loc D F) (h1 : 0 ≤ s) (h2 : s < 12) (h7 : S 7 s = 0) : iv_s0 S s := by
  have q := h.m.mu s h1 h2 h7
  have u := h.l.un s h1 h2 h7
  obtain ⟨e1, e2, e3, e4, e5, e6, e7, e8⟩ := q.2.2.1
  refine ⟨⟨u.2.1, u.2.2.1, u.2.2.2.1, q.1, q.2.1, q.2.2.2.1, q.2.2.2.2.1, q.2.2.2.2.2.1, q.2.2.2.2.2.2.1, q.2.2.2.2.2.2.2⟩, ⟨e1, e2, e5⟩, u.2.2.2.2.1, fun i i1 i2 => ?_, fun i i1 i2 => ?_⟩
  · have w := u.2.2.2.2.2 i i1 i2
    refine ⟨w.1, w.2.1, w.2.2, ?_⟩
    rcases (show i = 3 * s ∨ i = 3 * s + 1 ∨ i = 3 * s + 2 by omega) with e | e | e <;> rw [e] <;> assumption
  · have w := (h.m.le s (i - 10 * s) h1 h2 (by omega) (by omega)).2 h7
    rw [show 10 * s + (i - 10 * s) = i by omega] at w
    exact w
theorem sum7 {g : Int → Int} {v : Int} (h1 : 0 ≤ s) (h2 : s < 12) : sp_sum (fun i => if i = s then v else g i) 12 = sp_sum g 12 - g s + v := by
  have e := sm_up (g := g) (h := fun i => if i = s then v else g i) s 12 h1 h2 (fun j _ _ c => by rw [if_neg c])
  rw [if_pos rfl] at e
  exact e
theorem Inv.stage (h : Inv S loc D F) {k a m : Int} (ha : -2147483648 ≤ a ∧ a < 2147483648) (hc : sp_stageC S s k a m) : Inv (az_up (sp_stageU S s k a m) 100 0 (S 100 0 + 1)) loc D F := by
  obtain ⟨c0, c1, c2, c3, c4, c5⟩ := hc
  have h1 : 0 ≤ s := c1.1
  have h2 : s < 12 := by omega
  have s0 := h.s0 h1 h2 c2
  have mu := h.m.mu s h1 h2 c2
  have un := h.l.un s h1 h2 c2
  generalize hS : az_up (sp_stageU S s k a m) 100 0 (S 100 0 + 1) = S1
  have kk : ∀ (k1 : Nat) (i : Int), k1 ≠ 7 → k1 ≠ 8 → k1 ≠ 9 → k1 ≠ 10 → k1 ≠ 100 → S1 k1 i = S k1 i := fun k1 i a1 a2 a3 a4 a5 => by
    rw [← hS, az_up_kn a5]
    unfold sp_stageU
    rw [az_up_kn a4, az_up_kn a3, az_up_kn a2, az_up_kn a1]
  have f7 : ∀ i, S1 7 i = if i = s then 1 else S 7 i := fun i => by
    rw [← hS, az_up_kn (by decide)]
    unfold sp_stageU
    rw [az_up_kn (by decide), az_up_kn (by decide), az_up_kn (by decide), az_up_at]
  have f8 : ∀ i, S1 8 i = if i = s then k else S 8 i := fun i => by
    rw [← hS, az_up_kn (by decide)]
    unfold sp_stageU
    rw [az_up_kn (by decide), az_up_kn (by decide), az_up_at, az_up_kn (by decide)]
  have f9 : ∀ i, S1 9 i = if i = s then a else S 9 i := fun i => by
    rw [← hS, az_up_kn (by decide)]
    unfold sp_stageU
    rw [az_up_kn (by decide), az_up_at, az_up_kn (by decide), az_up_kn (by decide)]
  have f10 : ∀ i, S1 10 i = if i = s then m else S 10 i := fun i => by
    rw [← hS, az_up_kn (by decide)]
    unfold sp_stageU
    rw [az_up_at, az_up_kn (by decide), az_up_kn (by decide), az_up_kn (by decide)]
  have f100 : S1 100 0 = S 100 0 + 1 := by rw [← hS, az_up_ee]
  have n7 : ∀ i, i ≠ s → S1 7 i = S 7 i := fun i q => by rw [f7, if_neg q]
  refine ⟨iA_cg h.a (fun k1 i q => kk k1 i (by omega) (by omega) (by omega) (by omega) (by omega)), iZ_cg h.z (fun k1 i q => kk k1 i (by omega) (by omega) (by omega) (by omega) (by omega)), iB_cg h.b (fun k1 i q => kk k1 i (by omega) (by omega) (by omega) (by omega) (by omega)), ?_, ?_, ?_, iQ_cg h.q (fun k1 i q => kk k1 i (by omega) (by omega) (by omega) (by omega) (by omega))⟩
  · have K := fun (k1 : Nat) (i : Int) (q : k1 ≠ 7 ∧ k1 ≠ 8 ∧ k1 ≠ 9 ∧ k1 ≠ 10 ∧ k1 ≠ 100) => kk k1 i q.1 q.2.1 q.2.2.1 q.2.2.2.1 q.2.2.2.2
    have io : ∀ t, t ≠ s → sp_insOf S1 t = sp_insOf S t := fun t q => by unfold sp_insOf; rw [f8, if_neg q]
    have oo : ∀ t l, t ≠ s → sp_outsOf S1 t l = sp_outsOf S t l := fun t l q => by unfold sp_outsOf; rw [f8, if_neg q]
    refine ⟨fun t t1 t2 => ?_, fun i i1 i2 => ?_, fun t t1 t2 t3 => ?_, fun t t1 t2 t3 t4 i i1 i2 => ?_, fun t t1 t2 t3 => ?_, fun t t1 t2 t3 => ?_, fun q => ?_, fun q => ?_, fun t t1 t2 t3 => ?_, ?_⟩
    · rw [f7]
      have := h.l.s7 t t1 t2
      split <;> omega
    · rw [K 12 _ (by decide)]; exact h.l.r12 i i1 i2
    · by_cases e : t = s
      · have b1 := sp_insOf_b (S := S1) s
        have b2 := sp_outsOf_b (S := S1) s 0
        rw [e, f8, f9, f10, if_pos rfl, if_pos rfl, if_pos rfl, K 11 _ (by decide), K 13 _ (by decide)]
        exact ⟨c3, c4, ha, c5, by omega, by omega⟩
      · rw [n7 t e] at t3
        rw [f8, f9, f10, if_neg e, if_neg e, if_neg e, K 11 _ (by decide), K 13 _ (by decide), io t e, oo t 0 e]
        exact h.l.la t t1 t2 t3
    · rw [K 13 _ (by decide)] at i2
      rw [K 15 _ (by decide)]
      by_cases e : t = s
      · rw [e] at i2
        omega
      · rw [n7 t e] at t3
        rw [f8, if_neg e] at t4
        exact h.l.sh t t1 t2 t3 t4 i i1 i2
    · by_cases e : t = s
      · rw [e]
        refine ⟨⟨by rw [K 11 _ (by decide)]; omega, fun i i1 i2 => ?_⟩, ⟨by rw [K 13 _ (by decide)]; omega, fun i i1 i2 => ?_⟩⟩
        · rw [K 11 _ (by decide)] at i2; omega
        · rw [K 13 _ (by decide)] at i2; omega
      · rw [n7 t e] at t3
        have q := h.l.li t t1 t2 t3
        unfold iv_inb iv_outs at q ⊢
        simp only [K 3 _ (by decide), K 11 _ (by decide), K 12 _ (by decide), K 13 _ (by decide), K 14 _ (by decide)]
        exact q
    · rw [K 17 _ (by decide)]
      by_cases e : t = s
      · rw [e]
        refine ⟨fun i i1 i2 => ?_, by omega⟩
        rw [K 16 _ (by decide), (un.2.2.2.2.2 (3 * s + i) (by omega) (by omega)).2.2]
        decide
      · rw [n7 t e] at t3
        have q := h.l.ru t t1 t2 t3
        exact ⟨fun i i1 i2 => by rw [K 16 _ (by decide)]; exact q.1 i i1 i2, q.2⟩
    · rw [K 0 _ (by decide)] at q; omega
    · rw [K 0 _ (by decide)] at q; omega
    · by_cases e : t = s
      · rw [e, f7, if_pos rfl] at t3; omega
      · rw [n7 t e] at t3
        have q := h.l.un t t1 t2 t3
        rw [f8, if_neg e]
        simp only [K 11 _ (by decide), K 12 _ (by decide), K 13 _ (by decide), K 14 _ (by decide), K 15 _ (by decide), K 16 _ (by decide), K 17 _ (by decide)]
        exact q
    · rw [f100, h.l.tn, show S1 7 = fun i => if i = s then 1 else S 7 i from funext f7, sum7 h1 h2, c2]
      omega
  · have K := fun (k1 : Nat) (i : Int) (q : k1 ≠ 7 ∧ k1 ≠ 8 ∧ k1 ≠ 9 ∧ k1 ≠ 10 ∧ k1 ≠ 100) => kk k1 i q.1 q.2.1 q.2.2.1 q.2.2.2.1 q.2.2.2.2
    have ee : ∀ t, iv_e S t → iv_e S1 t := fun t q => iv_e_cg q (fun k1 i w => kk k1 i (by omega) (by omega) (by omega) (by omega) (by omega))
    refine ⟨fun t t1 t2 t3 => ?_, fun q t t1 t2 => ?_, fun t t1 t2 t3 => ?_, fun t g t1 t2 t3 t4 => ?_⟩
    · rw [K 18 _ (by decide), K 19 _ (by decide)]
      by_cases e : t = s
      · rw [e]
        exact Or.inl ⟨mu.1, mu.2.1, ee s mu.2.2.1⟩
      · rw [n7 t e] at t3
        have z := h.m.m0 c0 t t1 t2
        rcases h.m.md t t1 t2 t3 with ⟨x1, y, q⟩ | ⟨x1, y, q⟩ | ⟨x1, y, q⟩ | ⟨x1, y, q⟩ | ⟨x1, y, q⟩
        · exact Or.inl ⟨x1, y, ee t q⟩
        · omega
        · omega
        · omega
        · omega
    · rw [K 18 _ (by decide)]; exact h.m.m0 c0 t t1 t2
    · by_cases e : t = s
      · rw [e, f7, if_pos rfl] at t3; omega
      · rw [n7 t e] at t3
        have q := h.m.mu t t1 t2 t3
        rw [K 18 _ (by decide), K 19 _ (by decide), K 28 _ (by decide), K 32 _ (by decide), K 29 _ (by decide), K 30 _ (by decide), K 31 _ (by decide)]
        exact ⟨q.1, q.2.1, ee t q.2.2.1, q.2.2.2⟩
    · have q := h.m.le t g t1 t2 t3 t4
      rw [K 27 _ (by decide)]
      refine ⟨q.1, fun w => ?_⟩
      by_cases e : t = s
      · rw [e, f7, if_pos rfl] at w; omega
      · rw [n7 t e] at w
        exact q.2 w
  · have K := fun (k1 : Nat) (i : Int) (q : k1 ≠ 7 ∧ k1 ≠ 8 ∧ k1 ≠ 9 ∧ k1 ≠ 10 ∧ k1 ≠ 100) => kk k1 i q.1 q.2.1 q.2.2.1 q.2.2.2.1 q.2.2.2.2
    obtain ⟨a1, b1, b1', d1, e1, g1, i1, j1, l1, m1⟩ := h.p
    have ps : ∀ p, 0 ≤ p → p < S 38 0 → (0 ≤ S 39 p ∧ S 39 p < 12) ∧ S1 7 (S 39 p) = 1 ∧ (S 42 p = 1 ↔ S 40 p ≤ S 28 (S 39 p)) := fun p p1 p2 => by
      have q := d1 p p1 p2
      refine ⟨q.1, ?_, q.2.2⟩
      rw [f7]
      split
      · rfl
      · exact q.2.1
    have e42 : S1 42 = S 42 := funext (fun i => K 42 i (by decide))
    refine ⟨?_, ?_, ?_, ?_, ?_, ?_, ?_, ?_, ?_, ?_⟩ <;> simp only [iv_plans, e42, K 2 _ (by decide), K 28 _ (by decide), K 32 _ (by decide), K 33 _ (by decide), K 34 _ (by decide), K 38 _ (by decide), K 39 _ (by decide), K 40 _ (by decide), K 41 _ (by decide), K 43 _ (by decide), K 44 _ (by decide), K 101 _ (by decide), K 102 _ (by decide)] <;> assumption
end IvD
