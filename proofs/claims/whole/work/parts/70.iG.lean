-- deps: 30.mK 31.mL 32.mM 34.mN 37.mQ 38.mR 39.mS 43.cls 44.sta 44.stb 44.stc 44.std 45.cA 46.cB 47.cC 48.cD 49.cE 50.cF 54.cI 55.cJ 58.cM 59.cN 43.raw 51.cG 53.cH 56.cK 57.cL 52.cG2 60.cO 62.cQ 64.iA 65.iB 66.iC 67.iD 68.iE 69.iF 34.mN2 34.mN3 35.mO 36.mP 33.mM2
section IvG
variable {S S1 : az_M} {loc : Int → Int} {D F : Nat} {s b l : Int}
def iv_md (S : az_M) (loc : Int → Int) (s m t : Int) : Prop := (m = 0 ∧ t = 0 ∧ iv_e S s) ∨ (m = 1 ∧ (1 ≤ t ∧ t ≤ 20) ∧ iv_wk S loc s) ∨ (m = 2 ∧ t = 0 ∧ iv_pt S loc s) ∨ (m = 3 ∧ (1 ≤ t ∧ t ≤ 30) ∧ iv_e S s) ∨ (m = 4 ∧ t = 0 ∧ (iv_e S s ∨ iv_pt S loc s))
theorem iv_md_cg {m t : Int} (h : iv_md S loc s m t) (hk : ∀ k i, k = 3 ∨ k = 4 ∨ k = 8 ∨ k = 11 ∨ k = 12 ∨ k = 13 ∨ (20 ≤ k ∧ k ≤ 26) ∨ (33 ≤ k ∧ k ≤ 35) ∨ k = 108 ∨ k = 109 → S1 k i = S k i) : iv_md S1 loc s m t := by
  rcases h with ⟨x, y, q⟩ | ⟨x, y, q⟩ | ⟨x, y, q⟩ | ⟨x, y, q⟩ | ⟨x, y, q⟩
  · exact Or.inl ⟨x, y, iv_e_cg q (fun k i z => hk k i (by omega))⟩
  · exact Or.inr (Or.inl ⟨x, y, iv_wk_cg q (fun k i z => hk k i (by omega))⟩)
  · exact Or.inr (Or.inr (Or.inl ⟨x, y, iv_pt_cg q (fun k i z => hk k i (by omega))⟩))
  · exact Or.inr (Or.inr (Or.inr (Or.inl ⟨x, y, iv_e_cg q (fun k i z => hk k i (by omega))⟩)))
  · refine Or.inr (Or.inr (Or.inr (Or.inr ⟨x, y, ?_⟩)))
    rcases q with q | q
    · exact Or.inl (iv_e_cg q (fun k i z => hk k i (by omega)))
    · exact Or.inr (iv_pt_cg q (fun k i z => hk k i (by omega)))
/-- only a mode changes -/
theorem Inv.mode (h : Inv S loc D F) (h0 : S 0 0 = 1) (h1 : 0 ≤ s) (h2 : s < 12) (c : S 7 s = 1) {m t : Int} (hm : iv_md S loc s m t) : Inv (az_up (az_up S 18 s m) 19 s t) loc D F := by
  generalize hS : az_up (az_up S 18 s m) 19 s t = S1
  have K : ∀ (k1 : Nat) (i : Int), k1 ≠ 18 ∧ k1 ≠ 19 → S1 k1 i = S k1 i := fun k1 i a => by
    rw [← hS, az_up_kn a.2, az_up_kn a.1]
  have f18 : ∀ i, S1 18 i = if i = s then m else S 18 i := fun i => by
    rw [← hS, az_up_kn (by decide), az_up_at]
  have f19 : ∀ i, S1 19 i = if i = s then t else S 19 i := fun i => by
    rw [← hS, az_up_at, az_up_kn (by decide)]
  refine ⟨iA_cg h.a (fun k1 i q => K k1 i (by omega)), iZ_cg h.z (fun k1 i q => K k1 i (by omega)), iB_cg h.b (fun k1 i q => K k1 i (by omega)), iL_cg h.l (fun k1 i q => K k1 i (by omega)), ?_, iP_cg h.p (fun k1 i q => K k1 i (by omega)), iQ_cg h.q (fun k1 i q => K k1 i (by omega))⟩
  refine ⟨fun x x1 x2 x3 => ?_, fun q => ?_, fun x x1 x2 x3 => ?_, fun x g x1 x2 x3 x4 => ?_⟩
  · rw [K 7 _ (by decide)] at x3
    have e : iv_md S loc x (S1 18 x) (S1 19 x) := by
      rw [f18, f19]
      by_cases e : x = s
      · rw [if_pos e, if_pos e, e]; exact hm
      · rw [if_neg e, if_neg e]; exact h.m.md x x1 x2 x3
    exact iv_md_cg e (fun k1 i q => K k1 i (by omega))
  · rw [K 0 _ (by decide)] at q; omega
  · rw [K 7 _ (by decide)] at x3
    have q := h.m.mu x x1 x2 x3
    have e : x ≠ s := fun q => by rw [q] at x3; omega
    rw [f18, f19, if_neg e, if_neg e, K 28 _ (by decide), K 32 _ (by decide), K 29 _ (by decide), K 30 _ (by decide), K 31 _ (by decide)]
    exact ⟨q.1, q.2.1, iv_e_cg q.2.2.1 (fun k1 i w => K k1 i (by omega)), q.2.2.2⟩
  · rw [K 27 _ (by decide), K 7 _ (by decide)]; exact h.m.le x g x1 x2 x3 x4
/-- lots move between a stage and bins: what the rest keeps -/
theorem Inv.move (h : Inv S loc D F) (h0 : S 0 0 = 1) (h1 : 0 ≤ s) (h2 : s < 12) (c : S 7 s = 1) {loc' : Int → Int} (K : ∀ (k1 : Nat) (i : Int), k1 ≠ 4 ∧ k1 ≠ 5 ∧ k1 ≠ 18 ∧ k1 ≠ 19 ∧ k1 ≠ 21 ∧ k1 ≠ 22 → S1 k1 i = S k1 i) (K' : ∀ (k1 : Nat) (i : Int), i ≠ s → k1 = 18 ∨ k1 = 19 ∨ k1 = 21 ∨ k1 = 22 → S1 k1 i = S k1 i) (bS : iB S1 loc') (hs : iv_md S1 loc' s (S1 18 s) (S1 19 s)) (hl : ∀ x, 0 ≤ x → x < S 33 0 → (loc x = 0 ↔ loc' x = 0) ∧ ∀ t, t ≠ s → 0 ≤ t → loc x = 20 + t → loc' x = 20 + t) (h109 : S 109 (3 * s) = 0 ∧ S 109 (3 * s + 1) = 0 ∧ S 109 (3 * s + 2) = 0) (hr : ∀ t i, 0 ≤ t → t < 12 → t ≠ s → S 7 t = 1 → S 18 t = 1 → 0 ≤ i → i < S 11 t → S1 4 (S 12 (2 * t + i)) ≤ S 4 (S 12 (2 * t + i))) : Inv S1 loc' D F := by
  have g33 := h.a.g33
  have ee : ∀ t, t ≠ s → iv_e S t → iv_e S1 t := fun t e q => iv_e_fr q (K' 21 t e (by decide)) (K' 22 t e (by decide)) (K 23 _ (by decide)) (K 20 _ (by decide)) (K 108 _ (by decide)) (fun i _ _ => K 109 _ (by decide))
  have pp : ∀ t, t ≠ s → 0 ≤ t → iv_pt S loc t → iv_pt S1 loc' t := fun t e t1 q => iv_pt_fr q (K' 21 t e (by decide)) (K' 22 t e (by decide)) (K 23 _ (by decide)) (K 20 _ (by decide)) (K 108 _ (by decide)) (fun i _ _ => ⟨K 109 _ (by decide), K 24 _ (by decide), K 25 _ (by decide), K 26 _ (by decide)⟩) (K 13 _ (by decide)) (by rw [K 33 _ (by decide)]; omega) (fun w => (hl _ q.1.1.1 q.1.1.2).2 t e t1 w) (K 34 _ (by decide)) (K 35 _ (by decide))
  have ww : ∀ t, t ≠ s → 0 ≤ t → t < 12 → S 7 t = 1 → S 18 t = 1 → iv_wk S loc t → iv_wk S1 loc' t := fun t e t1 t2 t3 t4 q => by
    refine iv_wk_fr q (K' 21 t e (by decide)) (K' 22 t e (by decide)) (K 23 _ (by decide)) (K 20 _ (by decide)) (K 108 _ (by decide)) (fun i _ _ => K 109 _ (by decide)) (K 8 _ (by decide)) (by rw [K 33 _ (by decide)]; omega) (fun x x1 x2 x3 => (hl x x1 x2).2 t e t1 x3) (fun i i1 i2 => ?_)
    rw [K 11 _ (by decide)] at i2
    rw [K 12 _ (by decide), K 3 _ (by decide)]
    have := hr t i t1 t2 e t3 t4 i1 i2
    have := q.2.2.2.2.2.2.2.2.2 i i1 i2
    omega
  refine ⟨iA_cg h.a (fun k1 i q => K k1 i (by omega)), iZ_cg h.z (fun k1 i q => K k1 i (by omega)), bS, iL_cg h.l (fun k1 i q => K k1 i (by omega)), ?_, ?_, ?_⟩
  · refine ⟨fun t t1 t2 t3 => ?_, fun q => ?_, fun t t1 t2 t3 => ?_, fun t g t1 t2 t3 t4 => ?_⟩
    · rw [K 7 _ (by decide)] at t3
      by_cases e : t = s
      · rw [e]; exact hs
      · rw [K' 18 t e (by decide), K' 19 t e (by decide)]
        rcases h.m.md t t1 t2 t3 with ⟨x, y, q⟩ | ⟨x, y, q⟩ | ⟨x, y, q⟩ | ⟨x, y, q⟩ | ⟨x, y, q⟩
        · exact Or.inl ⟨x, y, ee t e q⟩
        · exact Or.inr (Or.inl ⟨x, y, ww t e t1 t2 t3 x q⟩)
        · exact Or.inr (Or.inr (Or.inl ⟨x, y, pp t e t1 q⟩))
        · exact Or.inr (Or.inr (Or.inr (Or.inl ⟨x, y, ee t e q⟩)))
        · exact Or.inr (Or.inr (Or.inr (Or.inr ⟨x, y, q.elim (fun q => Or.inl (ee t e q)) (fun q => Or.inr (pp t e t1 q))⟩)))
    · rw [K 0 _ (by decide)] at q; omega
    · rw [K 7 _ (by decide)] at t3
      have e : t ≠ s := fun q => by rw [q] at t3; omega
      have q := h.m.mu t t1 t2 t3
      rw [K' 18 t e (by decide), K' 19 t e (by decide), K 28 _ (by decide), K 32 _ (by decide), K 29 _ (by decide), K 30 _ (by decide), K 31 _ (by decide)]
      exact ⟨q.1, q.2.1, ee t e q.2.2.1, q.2.2.2⟩
    · rw [K 27 _ (by decide), K 7 _ (by decide)]; exact h.m.le t g t1 t2 t3 t4
  · have h1 : iP S loc' := by
      obtain ⟨a1, b1', b1'', d1, e1, g1, i1, j1, l1, m1⟩ := h.p
      exact ⟨a1, b1', b1'', d1, e1, g1, i1, j1, fun i i1 i2 => ⟨(l1 i i1 i2).1, (hl _ (l1 i i1 i2).1.1 (l1 i i1 i2).1.2).1.mp (l1 i i1 i2).2.1, (l1 i i1 i2).2.2⟩, m1⟩
    exact iP_cg h1 (fun k1 i q => K k1 i (by omega))
  · have s1 : sp_sum (ps_l S1 loc') (S 33 0).toNat = sp_sum (ps_l S loc) (S 33 0).toNat := sm_cg _ (fun j j1 j2 => by
      have q := (hl j j1 (by omega)).1
      unfold ps_l
      rw [K 34 _ (by decide), K 36 _ (by decide)]
      by_cases e : loc j = 0
      · rw [if_pos e, if_pos (q.mp e)]
      · rw [if_neg e, if_neg (fun w => e (q.mpr w))])
    have s3 : sp_sum (ps_n loc') (S 33 0).toNat = sp_sum (ps_n loc) (S 33 0).toNat := sm_cg _ (fun j j1 j2 => by
      have q := (hl j j1 (by omega)).1
      unfold ps_n
      by_cases e : loc j = 0
      · rw [if_pos e, if_pos (q.mp e)]
      · rw [if_neg e, if_neg (fun w => e (q.mpr w))])
    have s2 : sp_sum (ps_s S1) 12 = sp_sum (ps_s S) 12 := sm_cg _ (fun j j1 j2 => by
      unfold ps_s
      rw [K 109 _ (by decide), K 109 _ (by decide), K 109 _ (by decide), K 36 _ (by decide)]
      by_cases e : j = s
      · rw [e, h109.1, h109.2.1, h109.2.2]
        simp
      · rw [K' 21 j e (by decide)])
    refine ⟨?_, ?_, h.q.q3⟩
    · rw [K 33 _ (by decide), s1, s2]; exact h.q.q1
    · rw [K 33 _ (by decide), s3]; exact h.q.q2
theorem sp_gb_4' {i : Int} (hd : S 22 s ≠ -1 → S 12 (2 * s + 1) ≠ S 12 (2 * s)) : sp_gb S s 4 i = S 4 i + (if S 21 s ≠ -1 ∧ i = S 12 (2 * s) then 1 else 0) + (if S 22 s ≠ -1 ∧ i = S 12 (2 * s + 1) then 1 else 0) := by
  have k12 : ∀ j, sp_gb1 S s 12 j = S 12 j := fun j => by
    unfold sp_gb1
    split
    · rfl
    · exact sp_backs_k (by decide) (by decide)
  have a : ∀ j, sp_gb1 S s 4 j = S 4 j + (if S 21 s ≠ -1 ∧ j = S 12 (2 * s) then 1 else 0) := fun j => by
    unfold sp_gb1
    split
    · rename_i c
      rw [if_neg (fun q => q.1 c)]; omega
    · rename_i c
      rw [sp_backs_4]
      by_cases e : j = S 12 (2 * s)
      · rw [if_pos e, if_pos ⟨c, e⟩, e]
      · rw [if_neg e, if_neg (fun q => e q.2)]; omega
  unfold sp_gb
  rw [az_up_kn (by decide), az_up_kn (by decide)]
  unfold sp_gb2
  split
  · rename_i c
    rw [a, if_neg (c := S 22 s ≠ -1 ∧ _) (fun q => q.1 c)]; omega
  · rename_i c
    rw [sp_backs_4, a, a]
    by_cases e : i = S 12 (2 * s + 1)
    · rw [if_pos e, if_pos (c := S 22 s ≠ -1 ∧ _) ⟨c, e⟩, if_neg (c := S 21 s ≠ -1 ∧ S 12 (2 * s + 1) = _) (fun q => hd c q.2), e, if_neg (fun q => hd c q.2)]
    · rw [if_neg e, if_neg (c := S 22 s ≠ -1 ∧ _) (fun q => e q.2)]; omega
/-- a stage that works is stopped -/
theorem Inv.st1 (h : Inv S loc D F) (h0 : S 0 0 = 1) (h1 : 0 ≤ s) (h2 : s < 12) : ∃ loc', Inv (sp_st1 S s) loc' D F := by
  have g33 := h.a.g33
  have h7 := h.l.s7 s h1 h2
  unfold sp_st1
  by_cases c : S 7 s = 0
  · rw [if_pos c]; exact ⟨loc, h⟩
  · rw [if_neg c]
    have c1 : S 7 s = 1 := by omega
    by_cases d : S 18 s = 1
    · rw [if_pos d]
      have w := (h.wk s h1 h2 c1 d).2
      have gb := h.gb s h1 h2 h0 c1 w
      obtain ⟨⟨a1, a2⟩, b1, b2, e1, e2, e3, e4, e5, e6, rm⟩ := w
      have st := (h.l.st h0 s h1 h2 c1).1
      have li := (h.l.li s h1 h2 c1).1
      have ib := sp_insOf_b (S := S) s
      have l0 := li.2 0 (by decide) (by omega)
      rw [Int.add_zero] at l0
      have r0 := rm 0 (by decide) (by omega)
      rw [Int.add_zero] at r0
      have n21 : ¬ S 21 s = -1 := by omega
      have B1 := h.b.backs (b := S 12 (2 * s)) (l := S 21 s) (by omega) l0.1.1 l0.1.2 l0.2 r0 a1 g33.2 (fun x x1 x2 => by omega)
      have eg1 : sp_gb1 S s = sp_backs S (S 12 (2 * s)) (S 21 s) := by unfold sp_gb1; rw [if_neg n21]
      have K : ∀ (k1 : Nat) (i : Int), k1 ≠ 4 ∧ k1 ≠ 5 ∧ k1 ≠ 18 ∧ k1 ≠ 19 ∧ k1 ≠ 21 ∧ k1 ≠ 22 → az_up (az_up (sp_gb S s) 18 s 4) 19 s 0 k1 i = S k1 i := fun k1 i a => by
        rw [az_up_kn a.2.2.2.1, az_up_kn a.2.2.1, sp_gb_k a.2.1 a.1 a.2.2.2.2.1 a.2.2.2.2.2]
      have K' : ∀ (k1 : Nat) (i : Int), i ≠ s → k1 = 18 ∨ k1 = 19 ∨ k1 = 21 ∨ k1 = 22 → az_up (az_up (sp_gb S s) 18 s 4) 19 s 0 k1 i = S k1 i := fun k1 i a q => by
        rcases q with rfl | rfl | rfl | rfl
        · rw [az_up_kn (by decide), az_up_en a, sp_gb_k (by decide) (by decide) (by decide) (by decide)]
        · rw [az_up_en a, az_up_kn (by decide), sp_gb_k (by decide) (by decide) (by decide) (by decide)]
        · rw [az_up_kn (by decide), az_up_kn (by decide), sp_gb_21, if_neg a]
        · rw [az_up_kn (by decide), az_up_kn (by decide), sp_gb_22, if_neg a]
      have f18 : az_up (az_up (sp_gb S s) 18 s 4) 19 s 0 18 s = 4 := by rw [az_up_kn (by decide), az_up_ee]
      have f19 : az_up (az_up (sp_gb S s) 18 s 4) 19 s 0 19 s = 0 := by rw [az_up_ee]
      have em : iv_e (az_up (az_up (sp_gb S s) 18 s 4) 19 s 0) s := by
        refine ⟨?_, ?_, ?_, ?_, ?_, ?_, ?_, ?_⟩
        · rw [az_up_kn (by decide), az_up_kn (by decide), sp_gb_21, if_pos rfl]
        · rw [az_up_kn (by decide), az_up_kn (by decide), sp_gb_22, if_pos rfl]
        · rw [K 23 _ (by decide)]; exact e1
        · rw [K 20 _ (by decide)]; exact e2
        · rw [K 108 _ (by decide)]; exact e3
        · rw [K 109 _ (by decide)]; exact e4
        · rw [K 109 _ (by decide)]; exact e5
        · rw [K 109 _ (by decide)]; exact e6
      have ms : ∀ loc', iv_md (az_up (az_up (sp_gb S s) 18 s 4) 19 s 0) loc' s (az_up (az_up (sp_gb S s) 18 s 4) 19 s 0 18 s) (az_up (az_up (sp_gb S s) 18 s 4) 19 s 0 19 s) := fun loc' => by
        rw [f18, f19]
        exact Or.inr (Or.inr (Or.inr (Or.inr ⟨rfl, rfl, Or.inl em⟩)))
      have h22 : S 22 s ≠ -1 → S 12 (2 * s + 1) ≠ S 12 (2 * s) := fun q => (gb.2.1.2.resolve_left q).2.2.2.2
      have hr : ∀ t i, 0 ≤ t → t < 12 → t ≠ s → S 7 t = 1 → S 18 t = 1 → 0 ≤ i → i < S 11 t → az_up (az_up (sp_gb S s) 18 s 4) 19 s 0 4 (S 12 (2 * t + i)) ≤ S 4 (S 12 (2 * t + i)) := fun t i t1 t2 t3 t4 t5 i1 i2 => by
        rw [az_up_kn (by decide), az_up_kn (by decide)]
        refine Int.le_of_eq (sp_gb_4 (fun q e => ?_) (fun q e => ?_))
        · have := h.l.sd h0 t s i 0 t1 t2 h1 h2 t4 c1 i1 i2 (by decide) (by omega) (by rw [Int.add_zero]; exact e)
          omega
        · have := (gb.2.1.2.resolve_left q).2.1
          have := h.l.sd h0 t s i 1 t1 t2 h1 h2 t4 c1 i1 i2 (by decide) (by omega) e
          omega
      by_cases k : S 8 s = 4
      · have b2 := b2 k
        have n22 : ¬ S 22 s = -1 := by omega
        have g2 := gb.2.1.2.resolve_left n22
        have l1 := li.2 1 (by decide) g2.2.1
        have r1 := rm 1 (by decide) g2.2.1
        have kb := fun (k1 : Nat) (i : Int) (a : k1 ≠ 5 ∧ k1 ≠ 4) => sp_backs_k (S := S) (b := S 12 (2 * s)) (l := S 21 s) (i := i) a.1 a.2
        have ne := h22 n22
        have B2 := B1.backs (b := S 12 (2 * s + 1)) (l := S 22 s) (by rw [kb 0 _ (by decide)]; omega) l1.1.1 l1.1.2 (by rw [kb 3 _ (by decide)]; exact l1.2) (by rw [kb 3 _ (by decide), sp_backs_4, if_neg ne]; exact r1) (by rw [kb 33 _ (by decide)]; exact b2.1) (by rw [kb 33 _ (by decide)]; exact g33.2) (fun x x1 x2 => by rw [lc_n (fun q => b2.2.2 q.symm)]; omega)
        have eg2 : sp_gb2 S s = sp_backs (sp_backs S (S 12 (2 * s)) (S 21 s)) (S 12 (2 * s + 1)) (S 22 s) := by unfold sp_gb2; rw [if_neg n22, eg1]
        rw [← eg2] at B2
        refine ⟨_, h.move h0 h1 h2 c1 K K' (iB_cg B2 (fun k1 i q => ?_)) (ms _) (fun x x1 x2 => ?_) ⟨e4, e5, e6⟩ hr⟩
        · unfold sp_gb
          rw [az_up_kn (by omega), az_up_kn (by omega), az_up_kn (by omega), az_up_kn (by omega)]
        · unfold lc
          refine ⟨?_, fun t t1 t2 t3 => ?_⟩
          · split
            · rename_i e
              rw [e, b2.2.1]
              omega
            · split
              · rename_i e
                rw [e, a2]
                omega
              · exact Iff.rfl
          · rw [if_neg (fun e => by rw [e, b2.2.1] at t3; omega), if_neg (fun e => by rw [e, a2] at t3; omega)]
            exact t3
      · have b1 := b1 k
        have eg2 : sp_gb2 S s = sp_backs S (S 12 (2 * s)) (S 21 s) := by unfold sp_gb2; rw [if_pos b1, eg1]
        rw [← eg2] at B1
        refine ⟨_, h.move h0 h1 h2 c1 K K' (iB_cg B1 (fun k1 i q => ?_)) (ms _) (fun x x1 x2 => ?_) ⟨e4, e5, e6⟩ hr⟩
        · unfold sp_gb
          rw [az_up_kn (by omega), az_up_kn (by omega), az_up_kn (by omega), az_up_kn (by omega)]
        · unfold lc
          refine ⟨?_, fun t t1 t2 t3 => ?_⟩
          · split
            · rename_i e
              rw [e, a2]
              omega
            · exact Iff.rfl
          · rw [if_neg (fun e => by rw [e, a2] at t3; omega)]
            exact t3
    · rw [if_neg d]
      refine ⟨loc, h.mode h0 h1 h2 c1 (Or.inr (Or.inr (Or.inr (Or.inr ⟨rfl, rfl, ?_⟩))))⟩
      rcases h.m.md s h1 h2 c1 with ⟨x, y, q⟩ | ⟨x, y, q⟩ | ⟨x, y, q⟩ | ⟨x, y, q⟩ | ⟨x, y, q⟩
      · exact Or.inl q
      · exact absurd x d
      · exact Or.inr q
      · exact Or.inl q
      · exact q
theorem sp_st1_0 {i : Int} : sp_st1 S i 0 0 = S 0 0 := by
  unfold sp_st1
  split
  · rfl
  · rw [az_up_kn (by decide), az_up_kn (by decide)]
    split
    · exact sp_gb_k (by decide) (by decide) (by decide) (by decide)
    · rfl
theorem Inv.stF : ∀ (m : Nat) (i : Int) (S : az_M) (loc : Int → Int), Inv S loc D F → S 0 0 = 1 → 0 ≤ i → i + m ≤ 12 → ∃ loc', Inv (sp_stF m i S) loc' D F
  | 0, _, _, loc, h, _, _, _ => ⟨loc, h⟩
  | m + 1, i, S, loc, h, h0, h1, h2 => by
    obtain ⟨loc', h'⟩ := h.st1 h0 h1 (by omega)
    exact Inv.stF m (i + 1) _ loc' h' (by rw [sp_st1_0]; exact h0) (by omega) (by omega)
theorem Inv.stops (h : Inv S loc D F) (h0 : S 0 0 = 1) : ∃ loc', Inv (sp_stops S) loc' D F := Inv.stF 12 0 S loc h h0 (by decide) (by decide)
theorem Inv.go1 (h : Inv S loc D F) (h0 : S 0 0 = 1) (h1 : 0 ≤ s) (h2 : s < 12) : Inv (sp_go1 S s) loc D F := by
  unfold sp_go1
  split
  · rename_i c
    have q := (h.cgo s h1 h2 c.1).2 c.2
    have e : az_up S 18 s (if S 20 s = 1 then 2 else 0) = az_up (az_up S 18 s (if S 20 s = 1 then 2 else 0)) 19 s 0 := (az_up_id (by rw [az_up_kn (by decide)]; exact q.1)).symm
    rw [e]
    refine h.mode h0 h1 h2 c.1 ?_
    rcases h.m.md s h1 h2 c.1 with ⟨x, -⟩ | ⟨x, -⟩ | ⟨x, -⟩ | ⟨x, -⟩ | ⟨-, y, w⟩
    · omega
    · omega
    · omega
    · omega
    · rcases w with w | w
      · rw [if_neg (by have := w.2.2.2.1; omega)]
        exact Or.inl ⟨rfl, rfl, w⟩
      · rw [if_pos w.2.2.1]
        exact Or.inr (Or.inr (Or.inl ⟨rfl, rfl, w⟩))
  · exact h
theorem sp_go1_0 {i : Int} : sp_go1 S i 0 0 = S 0 0 := by
  unfold sp_go1
  split
  · exact az_up_kn (by decide)
  · rfl
theorem Inv.goF : ∀ (m : Nat) (i : Int) (S : az_M), Inv S loc D F → S 0 0 = 1 → 0 ≤ i → i + m ≤ 12 → Inv (sp_goF m i S) loc D F
  | 0, _, _, h, _, _, _ => h
  | m + 1, i, S, h, h0, h1, h2 => Inv.goF m (i + 1) _ (h.go1 h0 h1 (by omega)) (by rw [sp_go1_0]; exact h0) (by omega) (by omega)
theorem Inv.drain (h : Inv S loc D F) {v : Int} (hv : v = 0 ∨ v = 1) : Inv (az_up S 1 0 v) loc D F := by
  have K : ∀ (k1 : Nat) (i : Int), k1 ≠ 1 → az_up S 1 0 v k1 i = S k1 i := fun k1 i a => az_up_kn a
  refine ⟨⟨?_, ?_, ?_, ?_⟩, iZ_cg h.z (fun k1 i q => K k1 i (by omega)), iB_cg h.b (fun k1 i q => K k1 i (by omega)), iL_cg h.l (fun k1 i q => K k1 i (by omega)), iM_cg h.m (fun k1 i q => K k1 i (by omega)), iP_cg h.p (fun k1 i q => K k1 i (by omega)), iQ_cg h.q (fun k1 i q => K k1 i (by omega))⟩
  · rw [K 0 _ (by decide)]; exact h.a.g0
  · rw [az_up_ee]; omega
  · rw [K 2 _ (by decide)]; exact h.a.g2
  · rw [K 33 _ (by decide)]; exact h.a.g33
theorem Inv.cmd (h : Inv S loc D F) (h0 : S 0 0 = 1) (w : Int) : ∃ loc', Inv (sp_cmd S w) loc' D F := by
  unfold sp_cmd
  split
  · exact h.stops h0
  · split
    · exact ⟨loc, h.drain (Or.inr rfl)⟩
    · exact ⟨loc, Inv.goF 12 0 _ (h.drain (Or.inl rfl)) (by rw [az_up_kn (by decide)]; exact h0) (by decide) (by decide)⟩
end IvG
