-- deps: 30.mK 31.mL 32.mM 34.mN 37.mQ 38.mR 39.mS 43.cls 44.sta 44.stb 44.stc 44.std 45.cA 46.cB 47.cC 48.cD 49.cE 50.cF 54.cI 55.cJ 58.cM 59.cN 43.raw 51.cG 53.cH 56.cK 57.cL 52.cG2 60.cO 62.cQ 64.iA 65.iB 66.iC 67.iD 34.mN2 34.mN3 35.mO 36.mP 33.mM2
section IvE
variable {S : az_M} {loc : Int → Int} {D F : Nat} {s b : Int}
theorem Inv.from (h : Inv S loc D F) (hc : sp_fromC S s b) : Inv (sp_fromU S s b) loc D F := by
  obtain ⟨c0, ⟨c1, c2⟩, c3, c4⟩ := hc
  have h1 : 0 ≤ s := c1.1
  have h2 : s < 12 := by omega
  have la := h.l.la s h1 h2 c2
  have ib := sp_insOf_b (S := S) s
  generalize hS : sp_fromU S s b = S1
  have K : ∀ (k1 : Nat) (i : Int), k1 ≠ 11 ∧ k1 ≠ 12 → S1 k1 i = S k1 i := fun k1 i a => by
    rw [← hS]
    unfold sp_fromU
    rw [az_up_kn a.1, az_up_kn a.2]
  have f11 : ∀ i, S1 11 i = if i = s then S 11 s + 1 else S 11 i := fun i => by
    rw [← hS]
    unfold sp_fromU
    rw [az_up_at, az_up_kn (by decide)]
  have f12 : ∀ i, S1 12 i = if i = 2 * s + S 11 s then b else S 12 i := fun i => by
    rw [← hS]
    unfold sp_fromU
    rw [az_up_kn (by decide), az_up_at]
  have n11 : ∀ i, i ≠ s → S1 11 i = S 11 i := fun i q => by rw [f11, if_neg q]
  have io : ∀ t, sp_insOf S1 t = sp_insOf S t := fun t => by unfold sp_insOf; rw [K 8 _ (by decide)]
  have oo : ∀ t l, sp_outsOf S1 t l = sp_outsOf S t l := fun t l => by unfold sp_outsOf; rw [K 8 _ (by decide)]
  have e7 : S1 7 = S 7 := funext (fun i => K 7 i (by decide))
  refine ⟨iA_cg h.a (fun k1 i q => K k1 i (by omega)), iZ_cg h.z (fun k1 i q => K k1 i (by omega)), iB_cg h.b (fun k1 i q => K k1 i (by omega)), ?_, ?_, iP_cg h.p (fun k1 i q => K k1 i (by omega)), iQ_cg h.q (fun k1 i q => K k1 i (by omega))⟩
  · refine ⟨fun t t1 t2 => ?_, fun i i1 i2 => ?_, fun t t1 t2 t3 => ?_, fun t t1 t2 t3 t4 i i1 i2 => ?_, fun t t1 t2 t3 => ?_, fun t t1 t2 t3 => ?_, fun q => ?_, fun q => ?_, fun t t1 t2 t3 => ?_, ?_⟩
    · rw [e7]; exact h.l.s7 t t1 t2
    · rw [f12]
      have := h.l.r12 i i1 i2
      split <;> omega
    · rw [e7] at t3
      have q := h.l.la t t1 t2 t3
      rw [K 8 _ (by decide), K 9 _ (by decide), K 10 _ (by decide), K 13 _ (by decide), io, oo, f11]
      refine ⟨q.1, q.2.1, q.2.2.1, q.2.2.2.1, ?_, q.2.2.2.2.2⟩
      split
      · rename_i e
        rw [e]
        omega
      · exact q.2.2.2.2.1
    · rw [e7] at t3
      rw [K 8 _ (by decide)] at t4
      rw [K 13 _ (by decide)] at i2
      rw [K 15 _ (by decide)]
      exact h.l.sh t t1 t2 t3 t4 i i1 i2
    · rw [e7] at t3
      have q := h.l.li t t1 t2 t3
      refine ⟨⟨?_, fun i i1 i2 => ?_⟩, ?_⟩
      · rw [f11]
        have := q.1.1
        split <;> omega
      · rw [f12, K 3 _ (by decide)]
        have q0 := q.1.1
        rw [f11] at i2
        split
        · exact ⟨by omega, c3.2⟩
        · have : i < S 11 t := by
            by_cases e : t = s
            · subst e
              rw [if_pos rfl] at i2
              omega
            · rw [if_neg e] at i2
              exact i2
          exact q.1.2 i i1 this
      · unfold iv_outs at q ⊢
        simp only [K 3 _ (by decide), K 13 _ (by decide), K 14 _ (by decide)]
        exact q.2
    · rw [e7] at t3
      have q := h.l.ru t t1 t2 t3
      rw [K 17 _ (by decide)]
      exact ⟨fun i i1 i2 => by rw [K 16 _ (by decide)]; exact q.1 i i1 i2, q.2⟩
    · rw [K 0 _ (by decide)] at q; omega
    · rw [K 0 _ (by decide)] at q; omega
    · rw [e7] at t3
      have e : t ≠ s := fun q => by rw [q] at t3; omega
      have q := h.l.un t t1 t2 t3
      rw [K 8 _ (by decide), n11 t e, K 13 _ (by decide), K 17 _ (by decide)]
      refine ⟨q.1, q.2.1, q.2.2.1, q.2.2.2.1, fun i i1 i2 => ?_, fun i i1 i2 => ?_⟩
      · rw [f12, if_neg (by omega)]
        exact q.2.2.2.2.1 i i1 i2
      · rw [K 14 _ (by decide), K 15 _ (by decide), K 16 _ (by decide)]
        exact q.2.2.2.2.2 i i1 i2
    · rw [e7, K 100 _ (by decide)]; exact h.l.tn
  · obtain ⟨a1, a2, a3, a4⟩ := h.m
    have ee : ∀ t, iv_e S t → iv_e S1 t := fun t q => iv_e_cg q (fun k1 i w => K k1 i (by omega))
    refine ⟨fun t t1 t2 t3 => ?_, fun q t t1 t2 => ?_, fun t t1 t2 t3 => ?_, fun t g t1 t2 t3 t4 => ?_⟩
    · rw [e7] at t3
      rw [K 18 _ (by decide), K 19 _ (by decide)]
      have z := a2 c0 t t1 t2
      rcases a1 t t1 t2 t3 with ⟨x1, y, q⟩ | ⟨x1, y, q⟩ | ⟨x1, y, q⟩ | ⟨x1, y, q⟩ | ⟨x1, y, q⟩
      · exact Or.inl ⟨x1, y, ee t q⟩
      · omega
      · omega
      · omega
      · omega
    · rw [K 18 _ (by decide)]; exact a2 c0 t t1 t2
    · rw [e7] at t3
      have q := a3 t t1 t2 t3
      rw [K 18 _ (by decide), K 19 _ (by decide), K 28 _ (by decide), K 32 _ (by decide), K 29 _ (by decide), K 30 _ (by decide), K 31 _ (by decide)]
      exact ⟨q.1, q.2.1, ee t q.2.2.1, q.2.2.2⟩
    · rw [K 27 _ (by decide), K 7 _ (by decide)]; exact a4 t g t1 t2 t3 t4
theorem iL_cg14 {S1 : az_M} (h : iL S) (K : ∀ (k1 : Nat) (i : Int), k1 ≠ 14 → S1 k1 i = S k1 i) (h14 : ∀ t, 0 ≤ t → t < 12 → S 7 t = 1 → iv_outs S1 t) (hu : ∀ t, 0 ≤ t → t < 12 → S 7 t = 0 → ∀ i, 3 * t ≤ i → i < 3 * t + 3 → S1 14 i = 0) : iL S1 := by
  obtain ⟨a, b, c, d, e, f, g, g', u, t⟩ := h
  have e7 : S1 7 = S 7 := funext (fun i => K 7 i (by decide))
  have e' : ∀ s, 0 ≤ s → s < 12 → S 7 s = 1 → iv_inb S1 s ∧ iv_outs S1 s := fun s s1 s2 s3 => by
    have q := (e s s1 s2 s3).1
    refine ⟨?_, h14 s s1 s2 s3⟩
    unfold iv_inb at q ⊢
    simp only [K 3 _ (by decide), K 11 _ (by decide), K 12 _ (by decide)]
    exact q
  have u' : ∀ s, 0 ≤ s → s < 12 → S 7 s = 0 → S 8 s = 0 ∧ S 11 s = 0 ∧ S 13 s = 0 ∧ S 17 s = 5 ∧ (∀ i, 2 * s ≤ i → i < 2 * s + 2 → S 12 i = 0) ∧ (∀ i, 3 * s ≤ i → i < 3 * s + 3 → S1 14 i = 0 ∧ S 15 i = 0 ∧ S 16 i = 0) := fun s s1 s2 s3 => by
    have q := u s s1 s2 s3
    exact ⟨q.1, q.2.1, q.2.2.1, q.2.2.2.1, q.2.2.2.2.1, fun i i1 i2 => ⟨hu s s1 s2 s3 i i1 i2, (q.2.2.2.2.2 i i1 i2).2⟩⟩
  refine ⟨?_, ?_, ?_, ?_, ?_, ?_, ?_, ?_, ?_, ?_⟩ <;> simp only [iv_r12, sp_insOf, sp_outsOf, sp_shs, e7, K 0 _ (by decide), K 8 _ (by decide), K 9 _ (by decide), K 10 _ (by decide), K 11 _ (by decide), K 12 _ (by decide), K 13 _ (by decide), K 15 _ (by decide), K 16 _ (by decide), K 17 _ (by decide), K 100 _ (by decide)] <;> assumption
theorem Inv.divert (h : Inv S loc D F) {i : Int} (hc : sp_divC S s i b) : Inv (sp_divU S s i b) loc D F := by
  obtain ⟨c0, ⟨c1, c2⟩, c3, c4⟩ := hc
  have h1 : 0 ≤ s := c1.1
  have h2 : s < 12 := by omega
  have li := (h.l.li s h1 h2 c2).2
  have K : ∀ (k1 : Nat) (j : Int), k1 ≠ 14 → sp_divU S s i b k1 j = S k1 j := fun k1 j a => by
    unfold sp_divU
    rw [az_up_kn a]
  have f14 : ∀ j, sp_divU S s i b 14 j = if j = 3 * s + i then b else S 14 j := fun j => by
    unfold sp_divU
    rw [az_up_at]
  refine ⟨iA_cg h.a (fun k1 i q => K k1 i (by omega)), iZ_cg h.z (fun k1 i q => K k1 i (by omega)), iB_cg h.b (fun k1 i q => K k1 i (by omega)), iL_cg14 h.l K (fun t t1 t2 t3 => ?_) (fun t t1 t2 t3 j j1 j2 => ?_), iM_cg h.m (fun k1 i q => K k1 i (by omega)), iP_cg h.p (fun k1 i q => K k1 i (by omega)), iQ_cg h.q (fun k1 i q => K k1 i (by omega))⟩
  · have q := (h.l.li t t1 t2 t3).2
    refine ⟨by rw [K 13 _ (by decide)]; exact q.1, fun o o1 o2 => ?_⟩
    rw [K 13 _ (by decide)] at o2
    rw [K 3 _ (by decide), f14]
    split
    · exact ⟨by omega, c4.2⟩
    · exact q.2 o o1 o2
  · rw [f14, if_neg (fun e => ?_)]
    · exact ((h.l.un t t1 t2 t3).2.2.2.2.2 j j1 j2).1
    · have := li.1
      have : t = s := by omega
      rw [this] at t3
      omega
theorem Inv.to (h : Inv S loc D F) {k : Int} (hc : sp_toC S s b k) : Inv (sp_toU S s b k) loc D F := by
  obtain ⟨c0, ⟨c1, c2⟩, c3, c4, c5⟩ := hc
  have h1 : 0 ≤ s := c1.1
  have h2 : s < 12 := by omega
  have la := h.l.la s h1 h2 c2
  have ob := sp_outsOf_b (S := S) s 0
  generalize hS : sp_toU S s b k = S1
  have K : ∀ (k1 : Nat) (i : Int), k1 ≠ 13 ∧ k1 ≠ 14 ∧ k1 ≠ 15 → S1 k1 i = S k1 i := fun k1 i a => by
    rw [← hS]
    unfold sp_toU
    rw [az_up_kn a.1, az_up_kn a.2.2, az_up_kn a.2.1]
  have f13 : ∀ i, S1 13 i = if i = s then S 13 s + 1 else S 13 i := fun i => by
    rw [← hS]
    unfold sp_toU
    rw [az_up_at, az_up_kn (by decide), az_up_kn (by decide)]
  have f14 : ∀ i, S1 14 i = if i = 3 * s + S 13 s then b else S 14 i := fun i => by
    rw [← hS]
    unfold sp_toU
    rw [az_up_kn (by decide), az_up_kn (by decide), az_up_at]
  have f15 : ∀ i, S1 15 i = if i = 3 * s + S 13 s then k else S 15 i := fun i => by
    rw [← hS]
    unfold sp_toU
    rw [az_up_kn (by decide), az_up_at, az_up_kn (by decide)]
  have n13 : ∀ i, i ≠ s → S1 13 i = S 13 i := fun i q => by rw [f13, if_neg q]
  have io : ∀ t, sp_insOf S1 t = sp_insOf S t := fun t => by unfold sp_insOf; rw [K 8 _ (by decide)]
  have oo : ∀ t l, sp_outsOf S1 t l = sp_outsOf S t l := fun t l => by unfold sp_outsOf; rw [K 8 _ (by decide)]
  have e7 : S1 7 = S 7 := funext (fun i => K 7 i (by decide))
  refine ⟨iA_cg h.a (fun k1 i q => K k1 i (by omega)), iZ_cg h.z (fun k1 i q => K k1 i (by omega)), iB_cg h.b (fun k1 i q => K k1 i (by omega)), ?_, ?_, iP_cg h.p (fun k1 i q => K k1 i (by omega)), iQ_cg h.q (fun k1 i q => K k1 i (by omega))⟩
  · refine ⟨fun t t1 t2 => ?_, fun i i1 i2 => ?_, fun t t1 t2 t3 => ?_, fun t t1 t2 t3 t4 i i1 i2 => ?_, fun t t1 t2 t3 => ?_, fun t t1 t2 t3 => ?_, fun q => ?_, fun q => ?_, fun t t1 t2 t3 => ?_, ?_⟩
    · rw [e7]; exact h.l.s7 t t1 t2
    · rw [K 12 _ (by decide)]; exact h.l.r12 i i1 i2
    · rw [e7] at t3
      have q := h.l.la t t1 t2 t3
      rw [K 8 _ (by decide), K 9 _ (by decide), K 10 _ (by decide), K 11 _ (by decide), io, oo, f13]
      refine ⟨q.1, q.2.1, q.2.2.1, q.2.2.2.1, q.2.2.2.2.1, ?_⟩
      split
      · rename_i e
        rw [e]
        omega
      · exact q.2.2.2.2.2
    · rw [e7] at t3
      rw [K 8 _ (by decide)] at t4
      rw [f13] at i2
      rw [f15]
      have lt := h.l.la t t1 t2 t3
      have obt := sp_outsOf_b (S := S) t 0
      by_cases e : t = s
      · subst e
        rw [if_pos rfl] at i2
        split
        · exact c5 t4
        · exact h.l.sh t h1 h2 c2 t4 i i1 (by omega)
      · rw [if_neg e] at i2
        rw [if_neg (by omega)]
        exact h.l.sh t t1 t2 t3 t4 i i1 i2
    · rw [e7] at t3
      have q := h.l.li t t1 t2 t3
      refine ⟨?_, ⟨?_, fun i i1 i2 => ?_⟩⟩
      · unfold iv_inb at q ⊢
        simp only [K 3 _ (by decide), K 11 _ (by decide), K 12 _ (by decide)]
        exact q.1
      · rw [f13]
        have := q.2.1
        split <;> omega
      · rw [f14, K 3 _ (by decide)]
        have q0 := q.2.1
        rw [f13] at i2
        split
        · exact ⟨by omega, c3.2⟩
        · have : i < S 13 t := by
            by_cases e : t = s
            · subst e
              rw [if_pos rfl] at i2
              omega
            · rw [if_neg e] at i2
              exact i2
          exact q.2.2 i i1 this
    · rw [e7] at t3
      have q := h.l.ru t t1 t2 t3
      rw [K 17 _ (by decide)]
      exact ⟨fun i i1 i2 => by rw [K 16 _ (by decide)]; exact q.1 i i1 i2, q.2⟩
    · rw [K 0 _ (by decide)] at q; omega
    · rw [K 0 _ (by decide)] at q; omega
    · rw [e7] at t3
      have e : t ≠ s := fun q => by rw [q] at t3; omega
      have q := h.l.un t t1 t2 t3
      rw [K 8 _ (by decide), n13 t e, K 11 _ (by decide), K 17 _ (by decide)]
      refine ⟨q.1, q.2.1, q.2.2.1, q.2.2.2.1, fun i i1 i2 => ?_, fun i i1 i2 => ?_⟩
      · rw [K 12 _ (by decide)]
        exact q.2.2.2.2.1 i i1 i2
      · rw [f14, f15, if_neg (by omega), if_neg (by omega), K 16 _ (by decide)]
        exact q.2.2.2.2.2 i i1 i2
    · rw [e7, K 100 _ (by decide)]; exact h.l.tn
  · obtain ⟨a1, a2, a3, a4⟩ := h.m
    have ee : ∀ t, iv_e S t → iv_e S1 t := fun t q => iv_e_cg q (fun k1 i w => K k1 i (by omega))
    refine ⟨fun t t1 t2 t3 => ?_, fun q t t1 t2 => ?_, fun t t1 t2 t3 => ?_, fun t g t1 t2 t3 t4 => ?_⟩
    · rw [e7] at t3
      rw [K 18 _ (by decide), K 19 _ (by decide)]
      have z := a2 c0 t t1 t2
      rcases a1 t t1 t2 t3 with ⟨x1, y, q⟩ | ⟨x1, y, q⟩ | ⟨x1, y, q⟩ | ⟨x1, y, q⟩ | ⟨x1, y, q⟩
      · exact Or.inl ⟨x1, y, ee t q⟩
      · omega
      · omega
      · omega
      · omega
    · rw [K 18 _ (by decide)]; exact a2 c0 t t1 t2
    · rw [e7] at t3
      have q := a3 t t1 t2 t3
      rw [K 18 _ (by decide), K 19 _ (by decide), K 28 _ (by decide), K 32 _ (by decide), K 29 _ (by decide), K 30 _ (by decide), K 31 _ (by decide)]
      exact ⟨q.1, q.2.1, ee t q.2.2.1, q.2.2.2⟩
    · rw [K 27 _ (by decide), K 7 _ (by decide)]; exact a4 t g t1 t2 t3 t4
theorem Inv.rule (h : Inv S loc D F) {t w m : Int} (hc : sp_ruleC S s t w m) : Inv (sp_ruleU S s t w m) loc D F := by
  obtain ⟨⟨c1, c2⟩, c3, c4, c5⟩ := hc
  have h1 : 0 ≤ s := c1.1
  have h2 : s < 12 := by omega
  generalize hS : sp_ruleU S s t w m = S1
  have K : ∀ (k1 : Nat) (i : Int), k1 ≠ 16 ∧ k1 ≠ 17 → S1 k1 i = S k1 i := fun k1 i a => by
    rw [← hS]
    unfold sp_ruleU
    rw [az_up_kn a.2, az_up_kn a.1]
  have f16 : ∀ i, S1 16 i = if i = 3 * s + t then w else S 16 i := fun i => by
    rw [← hS]
    unfold sp_ruleU
    rw [az_up_kn (by decide), az_up_at]
  have f17 : ∀ i, S1 17 i = if i = s then m else S 17 i := fun i => by
    rw [← hS]
    unfold sp_ruleU
    rw [az_up_at, az_up_kn (by decide)]
  have e7 : S1 7 = S 7 := funext (fun i => K 7 i (by decide))
  refine ⟨iA_cg h.a (fun k1 i q => K k1 i (by omega)), iZ_cg h.z (fun k1 i q => K k1 i (by omega)), iB_cg h.b (fun k1 i q => K k1 i (by omega)), ?_, iM_cg h.m (fun k1 i q => K k1 i (by omega)), iP_cg h.p (fun k1 i q => K k1 i (by omega)), iQ_cg h.q (fun k1 i q => K k1 i (by omega))⟩
  obtain ⟨a, b', c, d, e, f, g, g', u, tt⟩ := h.l
  have f' : ∀ s, 0 ≤ s → s < 12 → S 7 s = 1 → (∀ t, 0 ≤ t → t ≤ 2 → 0 ≤ S1 16 (3 * s + t) ∧ S1 16 (3 * s + t) ≤ 2) ∧ (1 ≤ S1 17 s ∧ S1 17 s ≤ 30) := fun s' s1 s2 s3 => by
    have q := f s' s1 s2 s3
    refine ⟨fun i i1 i2 => ?_, ?_⟩
    · rw [f16]
      have := q.1 i i1 i2
      split <;> omega
    · rw [f17]
      have := q.2
      split <;> omega
  have u' : ∀ s, 0 ≤ s → s < 12 → S 7 s = 0 → S 8 s = 0 ∧ S 11 s = 0 ∧ S 13 s = 0 ∧ S1 17 s = 5 ∧ (∀ i, 2 * s ≤ i → i < 2 * s + 2 → S 12 i = 0) ∧ (∀ i, 3 * s ≤ i → i < 3 * s + 3 → S 14 i = 0 ∧ S 15 i = 0 ∧ S1 16 i = 0) := fun s' s1 s2 s3 => by
    have q := u s' s1 s2 s3
    have e : s' ≠ s := fun q => by rw [q] at s3; omega
    rw [f17, if_neg e]
    refine ⟨q.1, q.2.1, q.2.2.1, q.2.2.2.1, q.2.2.2.2.1, fun i i1 i2 => ?_⟩
    rw [f16, if_neg (by omega)]
    exact q.2.2.2.2.2 i i1 i2
  refine ⟨?_, ?_, ?_, ?_, ?_, ?_, ?_, ?_, ?_, ?_⟩ <;> simp only [iv_r12, iv_inb, iv_outs, sp_insOf, sp_outsOf, sp_shs, e7, K 0 _ (by decide), K 3 _ (by decide), K 8 _ (by decide), K 9 _ (by decide), K 10 _ (by decide), K 11 _ (by decide), K 12 _ (by decide), K 13 _ (by decide), K 14 _ (by decide), K 15 _ (by decide), K 100 _ (by decide)] <;> assumption
theorem Inv.plan (h : Inv S loc D F) {m t : Int} (hc : sp_planC S s m t) (hn : sp_planN S s m) : Inv (sp_planU S s m t) loc D F := by
  obtain ⟨⟨c1, c2⟩, c3, c4, c5, c6⟩ := hc
  have h1 : 0 ≤ s := c1.1
  have h2 : s < 12 := by omega
  obtain ⟨p1, p2⟩ := h.p.pl
  generalize hS : sp_planU S s m t = S1
  have K : ∀ (k1 : Nat) (i : Int), k1 ≠ 38 ∧ k1 ≠ 39 ∧ k1 ≠ 40 ∧ k1 ≠ 41 → S1 k1 i = S k1 i := fun k1 i a => by
    rw [← hS]
    unfold sp_planU
    rw [az_up_kn a.1, az_up_kn a.2.2.2, az_up_kn a.2.2.1, az_up_kn a.2.1]
  have f38 : S1 38 0 = S 38 0 + 1 := by
    rw [← hS]
    unfold sp_planU
    rw [az_up_ee]
  have f39 : ∀ i, S1 39 i = if i = S 38 0 then s else S 39 i := fun i => by
    rw [← hS]
    unfold sp_planU
    rw [az_up_kn (by decide), az_up_kn (by decide), az_up_kn (by decide), az_up_at]
  have f40 : ∀ i, S1 40 i = if i = S 38 0 then m else S 40 i := fun i => by
    rw [← hS]
    unfold sp_planU
    rw [az_up_kn (by decide), az_up_kn (by decide), az_up_at, az_up_kn (by decide)]
  have f41 : ∀ i, S1 41 i = if i = S 38 0 then t else S 41 i := fun i => by
    rw [← hS]
    unfold sp_planU
    rw [az_up_kn (by decide), az_up_at, az_up_kn (by decide), az_up_kn (by decide)]
  have e42 : S1 42 = S 42 := funext (fun i => K 42 i (by decide))
  refine ⟨iA_cg h.a (fun k1 i q => K k1 i (by omega)), iZ_cg h.z (fun k1 i q => K k1 i (by omega)), iB_cg h.b (fun k1 i q => K k1 i (by omega)), iL_cg h.l (fun k1 i q => K k1 i (by omega)), iM_cg h.m (fun k1 i q => K k1 i (by omega)), ?_, iQ_cg h.q (fun k1 i q => K k1 i (by omega))⟩
  obtain ⟨a1, b1, b1', d1, e1, g1, i1, j1, l1, m1⟩ := h.p
  refine ⟨⟨by rw [f38]; omega, fun p q1 q2 => ?_⟩, by rw [e42]; exact b1, fun p q1 q2 => ?_, fun p q1 q2 => ?_, fun p q q1 q2 q3 => ?_, fun s' s1 s2 => ?_, ?_, ?_, fun i i1 i2 => ?_, fun s' s1 s2 => ?_⟩
  · have q := p2 p q1 q2
    rw [f39, f40, f41]
    split <;> omega
  · rw [f38] at q1
    rw [e42]
    exact b1' p (by omega) q2
  · rw [f38] at q2
    rw [f39, f40, e42, K 7 _ (by decide), K 28 _ (by decide)]
    by_cases e : p = S 38 0
    · rw [if_pos e, if_pos e]
      have z := b1' p (by omega) (by omega)
      exact ⟨by omega, c2, by omega⟩
    · rw [if_neg e, if_neg e]
      exact d1 p q1 (by omega)
  · rw [f38] at q3
    rw [f39, f39, f40, f40]
    by_cases e : q = S 38 0
    · rw [if_pos e, if_pos e, if_neg (by omega), if_neg (by omega)]
      exact hn p q1 (by omega)
    · rw [if_neg e, if_neg e, if_neg (by omega), if_neg (by omega)]
      exact e1 p q q1 q2 (by omega)
  · rw [K 28 _ (by decide), K 2 _ (by decide)]; exact g1 s' s1 s2
  · rw [e42, K 102 _ (by decide)]; exact i1
  · rw [K 43 _ (by decide), K 102 _ (by decide)]; exact j1
  · rw [K 43 _ (by decide)] at i2
    rw [K 44 _ (by decide), K 33 _ (by decide), K 101 _ (by decide), K 34 _ (by decide)]
    exact l1 i i1 i2
  · rw [K 32 _ (by decide)]; exact m1 s' s1 s2
theorem sp_lkF_0 : ∀ (m : Nat) (i : Int), sp_lkF S m i = 0 → ∀ t, i ≤ t → t < i + m → 0 ≤ i → sp_lk1 S t = 0
  | 0, _, _, _, h1, h2, _ => by omega
  | m + 1, i, h, t, h1, h2, h3 => by
    have e : sp_lkF S (m + 1) i = if 0 < sp_lk1 S i then 100 * i + sp_lk1 S i else sp_lkF S m (i + 1) := rfl
    have b := sp_lk1_b (S := S) (s := i)
    rw [e] at h
    split at h
    · omega
    · by_cases d : t = i
      · rw [d]; omega
      · exact sp_lkF_0 m (i + 1) h t (by omega) (by omega) (by omega)
theorem sp_lkF_b : ∀ (m : Nat) (i : Int), 0 ≤ i → i + m ≤ 12 → 0 ≤ sp_lkF S m i ∧ sp_lkF S m i ≤ 2000
  | 0, _, _, _ => by
    show (0 : Int) ≤ 0 ∧ (0 : Int) ≤ 2000
    omega
  | m + 1, i, h1, h2 => by
    have b := sp_lk1_b (S := S) (s := i)
    have ih := sp_lkF_b m (i + 1) (by omega) (by omega)
    show 0 ≤ (if 0 < sp_lk1 S i then 100 * i + sp_lk1 S i else sp_lkF S m (i + 1)) ∧ (if 0 < sp_lk1 S i then 100 * i + sp_lk1 S i else sp_lkF S m (i + 1)) ≤ 2000
    split <;> omega
theorem Inv.stands (h : Inv S loc D F) (h0 : S 0 0 = 0) (hk : sp_lkF S 12 0 = 0) : Inv (az_up S 0 0 1) loc D F := by
  have K : ∀ (k1 : Nat) (i : Int), k1 ≠ 0 → az_up S 0 0 1 k1 i = S k1 i := fun k1 i a => az_up_kn a
  have f0 : az_up S 0 0 1 0 0 = 1 := az_up_ee
  have nl : ∀ t, 0 ≤ t → t < 12 → S 7 t = 1 → S 11 t = sp_insOf S t ∧ sp_outsOf S t 1 ≤ S 13 t ∧ (S 8 t = 2 → sp_shs S t = 1000) ∧ ¬ sp_twice S t := fun t t1 t2 t3 => by
    have q := sp_lkF_0 12 0 hk t t1 (by omega) (by decide)
    have la := (h.l.la t t1 t2 t3).2.2.2.2
    unfold sp_lk1 at q
    rw [if_pos t3] at q
    unfold sp_lacks at q
    split at q
    · omega
    · split at q
      · omega
      · split at q
        · omega
        · rename_i x
          split at q
          · omega
          · rename_i y
            refine ⟨by omega, by omega, fun w => ?_, y⟩
            apply Classical.byContradiction
            intro z
            exact x ⟨w, z⟩
  have e7 : az_up S 0 0 1 7 = S 7 := funext (fun i => K 7 i (by decide))
  refine ⟨⟨by rw [f0]; decide, by rw [K 1 _ (by decide)]; exact h.a.g1, by rw [K 2 _ (by decide)]; exact h.a.g2, by rw [K 33 _ (by decide)]; exact h.a.g33⟩, iZ_cg h.z (fun k1 i q => K k1 i (by omega)), ?_, ?_, ?_, iP_cg h.p (fun k1 i q => K k1 i (by omega)), iQ_cg h.q (fun k1 i q => K k1 i (by omega))⟩
  · obtain ⟨a, b, c, d, e, f, g, g'⟩ := h.b
    have n0 : ¬ az_up S 0 0 1 0 0 = 0 := by rw [f0]; decide
    refine ⟨?_, ?_, ?_, ?_, ?_, ?_, fun q => absurd q n0, fun q => absurd q n0⟩ <;> simp only [iv_r5, K 3 _ (by decide), K 4 _ (by decide), K 5 _ (by decide), K 6 _ (by decide), K 33 _ (by decide)] <;> assumption
  · obtain ⟨a, b', c, d, e, f, g, g', u, tt⟩ := h.l
    have ss : az_up S 0 0 1 0 0 = 1 → ∀ s, 0 ≤ s → s < 12 → S 7 s = 1 → S 11 s = sp_insOf S s ∧ sp_outsOf S s 1 ≤ S 13 s ∧ (S 8 s = 2 → sp_shs S s = 1000) := fun _ s s1 s2 s3 => by
      have q := nl s s1 s2 s3
      exact ⟨q.1, q.2.1, q.2.2.1⟩
    have tw : ∀ s t a b, 0 ≤ s → s < 12 → 0 ≤ t → t < s → S 7 s = 1 → S 7 t = 1 → 0 ≤ a → a < S 11 s → 0 ≤ b → b < S 11 t → S 12 (2 * s + a) ≠ S 12 (2 * t + b) := fun s t a b s1 s2 t1 t2 s3 t3 a1 a2 b1 b2 q => by
      have ns := (nl s s1 s2 s3).2.2.2
      have is := (h.l.li s s1 s2 s3).1.1
      have it := (h.l.li t t1 (by omega) t3).1.1
      apply ns
      refine Or.inr ⟨t, t1, t2, (sp_hit_i (by omega)).mpr ⟨t3, a, a1, a2, ?_⟩⟩
      rw [q]
      unfold sp_isIn
      rcases (show b = 0 ∨ b = 1 by omega) with rfl | rfl
      · exact Or.inl ⟨by omega, by rw [Int.add_zero]⟩
      · exact Or.inr ⟨by omega, rfl⟩
    have sd : az_up S 0 0 1 0 0 = 1 → ∀ s t a b, 0 ≤ s → s < 12 → 0 ≤ t → t < 12 → S 7 s = 1 → S 7 t = 1 → 0 ≤ a → a < S 11 s → 0 ≤ b → b < S 11 t → S 12 (2 * s + a) = S 12 (2 * t + b) → s = t ∧ a = b := fun _ s t a b s1 s2 t1 t2 s3 t3 a1 a2 b1 b2 q => by
      rcases Int.lt_trichotomy s t with x | x | x
      · exact absurd q.symm (tw t s b a t1 t2 s1 x t3 s3 b1 b2 a1 a2)
      · subst x
        refine ⟨rfl, ?_⟩
        have ns := (nl s s1 s2 s3).2.2.2
        have is := (h.l.li s s1 s2 s3).1.1
        apply Classical.byContradiction
        intro y
        apply ns
        rcases (show (a = 0 ∧ b = 1) ∨ (a = 1 ∧ b = 0) by omega) with ⟨rfl, rfl⟩ | ⟨rfl, rfl⟩
        · rw [Int.add_zero] at q
          exact Or.inl ⟨by omega, q⟩
        · rw [Int.add_zero] at q
          exact Or.inl ⟨by omega, q.symm⟩
      · exact absurd q (tw s t a b s1 s2 t1 x s3 t3 a1 a2 b1 b2)
    refine ⟨?_, ?_, ?_, ?_, ?_, ?_, ?_, ?_, ?_, ?_⟩ <;> simp only [iv_r12, iv_inb, iv_outs, sp_insOf, sp_outsOf, sp_shs, e7, K 3 _ (by decide), K 8 _ (by decide), K 9 _ (by decide), K 10 _ (by decide), K 11 _ (by decide), K 12 _ (by decide), K 13 _ (by decide), K 14 _ (by decide), K 15 _ (by decide), K 16 _ (by decide), K 17 _ (by decide), K 100 _ (by decide)] <;> assumption
  · have hm : iM S loc := h.m
    have z : ∀ s, 0 ≤ s → s < 12 → S 18 s = 0 := hm.m0 h0
    obtain ⟨a, b, c, d⟩ := hm
    have ee : ∀ t, iv_e S t → iv_e (az_up S 0 0 1) t := fun t q => iv_e_cg q (fun k1 i w => K k1 i (by omega))
    refine ⟨fun t t1 t2 t3 => ?_, fun q => by rw [f0] at q; omega, fun t t1 t2 t3 => ?_, fun t g t1 t2 t3 t4 => ?_⟩
    · rw [e7] at t3
      rw [K 18 _ (by decide), K 19 _ (by decide)]
      have z := z t t1 t2
      rcases a t t1 t2 t3 with ⟨x1, y, q⟩ | ⟨x1, y, q⟩ | ⟨x1, y, q⟩ | ⟨x1, y, q⟩ | ⟨x1, y, q⟩
      · exact Or.inl ⟨x1, y, ee t q⟩
      · omega
      · omega
      · omega
      · omega
    · rw [e7] at t3
      have q := c t t1 t2 t3
      rw [K 18 _ (by decide), K 19 _ (by decide), K 28 _ (by decide), K 32 _ (by decide), K 29 _ (by decide), K 30 _ (by decide), K 31 _ (by decide)]
      exact ⟨q.1, q.2.1, ee t q.2.2.1, q.2.2.2⟩
    · rw [K 27 _ (by decide), K 7 _ (by decide)]; exact d t g t1 t2 t3 t4
end IvE
