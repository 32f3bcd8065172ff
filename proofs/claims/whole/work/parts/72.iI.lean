-- deps: 30.mK 31.mL 32.mM 34.mN 37.mQ 38.mR 39.mS 43.cls 44.sta 44.stb 44.stc 44.std 45.cA 46.cB 47.cC 48.cD 49.cE 50.cF 54.cI 55.cJ 58.cM 59.cN 43.raw 51.cG 53.cH 56.cK 57.cL 52.cG2 60.cO 62.cQ 64.iA 65.iB 66.iC 67.iD 68.iE 69.iF 70.iG 34.mN2 34.mN3 35.mO 36.mP 33.mM2
def iv_mu (S : az_M) (s : Int) : Prop := S 18 s = 0 ∧ S 19 s = 0 ∧ iv_e S s ∧ S 28 s = 0 ∧ S 32 s = 0 ∧ S 29 s = 0 ∧ S 30 s = 0 ∧ S 31 s = 0
def ps_x (S : az_M) (s t : Int) : Int := if t = s then 0 else ps_s S t
def sq_109 (S : az_M) (s o : Int) : Int := S 109 (3 * s + o)
/-- in the midst of putting -/
def iE (S : az_M) (loc : Int → Int) (D F : Nat) (s : Int) (m : Nat) (i : Int) : Prop := (S 0 0 = 1) ∧ (iA S) ∧ (iZ S) ∧ (iB S loc) ∧ (iL S) ∧ (iP S loc) ∧ (∀ t, 0 ≤ t → t < 12 → t ≠ s → (S 7 t = 1 → iv_md S loc t (S 18 t) (S 19 t)) ∧ (S 7 t = 0 → iv_mu S t)) ∧ (∀ s g, 0 ≤ s → s < 12 → 0 ≤ g → g ≤ 9 → (0 ≤ S 27 (10 * s + g) ∧ S 27 (10 * s + g) ≤ 50000) ∧ (S 7 s = 0 → S 27 (10 * s + g) = 0)) ∧ (sp_sum (ps_l S loc) (S 33 0).toNat + sp_sum (ps_x S s) 12 + sp_ts (sq_109 S s) m i * mx (S 36 (S 21 s)) ≤ ps_b D * F) ∧ (D + sp_sum (ps_n loc) (S 33 0).toNat ≤ S 33 0) ∧ (F ≤ 512) ∧ ((0 ≤ S 21 s ∧ S 21 s < S 33 0) ∧ loc (S 21 s) ≠ 0 ∧ (i ≤ S 108 s → loc (S 21 s) = 20 + s)) ∧ (∀ o, i ≤ o → o < S 13 s → sq_wants S s o → S 4 (S 14 (3 * s + o)) + sp_ts (sq_lw1 S s (S 14 (3 * s + o))) m i ≤ S 3 (S 14 (3 * s + o))) ∧ (S 33 0 + sp_ts (sq_nr S s) m i ≤ 1500) ∧ (∀ o, 0 ≤ o → o < 3 → 0 ≤ S 109 (3 * s + o) ∧ (o = S 108 s → S 109 (3 * s + o) = 0))
theorem iE.h0 {S : az_M} {loc : Int → Int} {D F : Nat} {s : Int} {m : Nat} {i : Int} (h : iE S loc D F s m i) : S 0 0 = 1 := h.1
theorem iE.a {S : az_M} {loc : Int → Int} {D F : Nat} {s : Int} {m : Nat} {i : Int} (h : iE S loc D F s m i) : iA S := h.2.1
theorem iE.z {S : az_M} {loc : Int → Int} {D F : Nat} {s : Int} {m : Nat} {i : Int} (h : iE S loc D F s m i) : iZ S := h.2.2.1
theorem iE.b {S : az_M} {loc : Int → Int} {D F : Nat} {s : Int} {m : Nat} {i : Int} (h : iE S loc D F s m i) : iB S loc := h.2.2.2.1
theorem iE.l {S : az_M} {loc : Int → Int} {D F : Nat} {s : Int} {m : Nat} {i : Int} (h : iE S loc D F s m i) : iL S := h.2.2.2.2.1
theorem iE.p {S : az_M} {loc : Int → Int} {D F : Nat} {s : Int} {m : Nat} {i : Int} (h : iE S loc D F s m i) : iP S loc := h.2.2.2.2.2.1
theorem iE.mm {S : az_M} {loc : Int → Int} {D F : Nat} {s : Int} {m : Nat} {i : Int} (h : iE S loc D F s m i) : ∀ t, 0 ≤ t → t < 12 → t ≠ s → (S 7 t = 1 → iv_md S loc t (S 18 t) (S 19 t)) ∧ (S 7 t = 0 → iv_mu S t) := h.2.2.2.2.2.2.1
theorem iE.le {S : az_M} {loc : Int → Int} {D F : Nat} {s : Int} {m : Nat} {i : Int} (h : iE S loc D F s m i) : ∀ s g, 0 ≤ s → s < 12 → 0 ≤ g → g ≤ 9 → (0 ≤ S 27 (10 * s + g) ∧ S 27 (10 * s + g) ≤ 50000) ∧ (S 7 s = 0 → S 27 (10 * s + g) = 0) := h.2.2.2.2.2.2.2.1
theorem iE.q1 {S : az_M} {loc : Int → Int} {D F : Nat} {s : Int} {m : Nat} {i : Int} (h : iE S loc D F s m i) : sp_sum (ps_l S loc) (S 33 0).toNat + sp_sum (ps_x S s) 12 + sp_ts (sq_109 S s) m i * mx (S 36 (S 21 s)) ≤ ps_b D * F := h.2.2.2.2.2.2.2.2.1
theorem iE.q2 {S : az_M} {loc : Int → Int} {D F : Nat} {s : Int} {m : Nat} {i : Int} (h : iE S loc D F s m i) : D + sp_sum (ps_n loc) (S 33 0).toNat ≤ S 33 0 := h.2.2.2.2.2.2.2.2.2.1
theorem iE.q3 {S : az_M} {loc : Int → Int} {D F : Nat} {s : Int} {m : Nat} {i : Int} (h : iE S loc D F s m i) : F ≤ 512 := h.2.2.2.2.2.2.2.2.2.2.1
theorem iE.fi {S : az_M} {loc : Int → Int} {D F : Nat} {s : Int} {m : Nat} {i : Int} (h : iE S loc D F s m i) : (0 ≤ S 21 s ∧ S 21 s < S 33 0) ∧ loc (S 21 s) ≠ 0 ∧ (i ≤ S 108 s → loc (S 21 s) = 20 + s) := h.2.2.2.2.2.2.2.2.2.2.2.1
theorem iE.rm {S : az_M} {loc : Int → Int} {D F : Nat} {s : Int} {m : Nat} {i : Int} (h : iE S loc D F s m i) : ∀ o, i ≤ o → o < S 13 s → sq_wants S s o → S 4 (S 14 (3 * s + o)) + sp_ts (sq_lw1 S s (S 14 (3 * s + o))) m i ≤ S 3 (S 14 (3 * s + o)) := h.2.2.2.2.2.2.2.2.2.2.2.2.1
theorem iE.nl {S : az_M} {loc : Int → Int} {D F : Nat} {s : Int} {m : Nat} {i : Int} (h : iE S loc D F s m i) : S 33 0 + sp_ts (sq_nr S s) m i ≤ 1500 := h.2.2.2.2.2.2.2.2.2.2.2.2.2.1
theorem iE.pc {S : az_M} {loc : Int → Int} {D F : Nat} {s : Int} {m : Nat} {i : Int} (h : iE S loc D F s m i) : ∀ o, 0 ≤ o → o < 3 → 0 ≤ S 109 (3 * s + o) ∧ (o = S 108 s → S 109 (3 * s + o) = 0) := h.2.2.2.2.2.2.2.2.2.2.2.2.2.2
section IvI
variable {S S1 : az_M} {loc : Int → Int} {D F : Nat} {s b l : Int}
theorem sq_split_at {g gr : Int} : sq_split S l g gr 34 (S 33 0) = g ∧ sq_split S l g gr 35 (S 33 0) = gr ∧ sq_split S l g gr 36 (S 33 0) = S 36 l ∧ (l < S 33 0 → sq_split S l g gr 37 (4 * S 33 0) = S 37 (4 * l) ∧ sq_split S l g gr 37 (4 * S 33 0 + 1) = S 37 (4 * l + 1) ∧ sq_split S l g gr 37 (4 * S 33 0 + 2) = S 37 (4 * l + 2) ∧ sq_split S l g gr 37 (4 * S 33 0 + 3) = S 37 (4 * l + 3)) := by
  have m37 : ∀ i, sq_make S g gr (S 36 l) 37 i = S 37 i := fun i => sq_make_k (by decide) (by decide) (by decide) (by decide)
  unfold sq_split sq_cp
  refine ⟨?_, ?_, ?_, fun _ => ⟨?_, ?_, ?_, ?_⟩⟩
  · unfold sq_make
    simp (disch := first | decide | omega) only [az_up_kn, az_up_en, az_up_ee]
  · unfold sq_make
    simp (disch := first | decide | omega) only [az_up_kn, az_up_en, az_up_ee]
  · unfold sq_make
    simp (disch := first | decide | omega) only [az_up_kn, az_up_en, az_up_ee]
  · simp (disch := first | decide | omega) only [az_up_kn, az_up_en, az_up_ee, m37]
  · simp (disch := first | decide | omega) only [az_up_kn, az_up_en, az_up_ee, m37]
  · simp (disch := first | decide | omega) only [az_up_kn, az_up_en, az_up_ee, m37]
  · simp (disch := first | decide | omega) only [az_up_kn, az_up_en, az_up_ee, m37]
theorem sq_split_37 {g gr i : Int} (h : i < 4 * S 33 0) : sq_split S l g gr 37 i = S 37 i := by
  unfold sq_split sq_cp
  simp (disch := first | decide | omega) only [az_up_kn, az_up_en]
  exact sq_make_k (by decide) (by decide) (by decide) (by decide)
/-- another stage, while lots are put -/
theorem iv_md_fr {loc' : Int → Int} {t : Int} (h : iv_md S loc t (S 18 t) (S 19 t)) (K : ∀ (k1 : Nat) (i : Int), k1 ≠ 4 ∧ k1 ≠ 5 ∧ k1 ≠ 33 ∧ k1 ≠ 34 ∧ k1 ≠ 35 ∧ k1 ≠ 36 ∧ k1 ≠ 37 → S1 k1 i = S k1 i) (K' : ∀ i, i < S 33 0 → S1 34 i = S 34 i ∧ S1 35 i = S 35 i) (h33 : S 33 0 ≤ S1 33 0) (hl : ∀ x, 0 ≤ x → x < S 33 0 → loc x = 20 + t → loc' x = 20 + t) (hr : ∀ i, 0 ≤ i → i < S 11 t → S 4 (S 12 (2 * t + i)) ≤ S 3 (S 12 (2 * t + i)) → S1 4 (S 12 (2 * t + i)) ≤ S 3 (S 12 (2 * t + i))) : iv_md S1 loc' t (S1 18 t) (S1 19 t) := by
  rw [K 18 _ (by decide), K 19 _ (by decide)]
  have ee : iv_e S t → iv_e S1 t := fun q => iv_e_fr q (K 21 _ (by decide)) (K 22 _ (by decide)) (K 23 _ (by decide)) (K 20 _ (by decide)) (K 108 _ (by decide)) (fun i _ _ => K 109 _ (by decide))
  have pp : iv_pt S loc t → iv_pt S1 loc' t := fun q => iv_pt_fr q (K 21 _ (by decide)) (K 22 _ (by decide)) (K 23 _ (by decide)) (K 20 _ (by decide)) (K 108 _ (by decide)) (fun i _ _ => ⟨K 109 _ (by decide), K 24 _ (by decide), K 25 _ (by decide), K 26 _ (by decide)⟩) (K 13 _ (by decide)) h33 (fun w => hl _ q.1.1.1 q.1.1.2 w) (K' _ q.1.1.2).1 (K' _ q.1.1.2).2
  have ww : iv_wk S loc t → iv_wk S1 loc' t := fun q => by
    refine iv_wk_fr q (K 21 _ (by decide)) (K 22 _ (by decide)) (K 23 _ (by decide)) (K 20 _ (by decide)) (K 108 _ (by decide)) (fun i _ _ => K 109 _ (by decide)) (K 8 _ (by decide)) h33 hl (fun i i1 i2 => ?_)
    rw [K 11 _ (by decide)] at i2
    rw [K 12 _ (by decide), K 3 _ (by decide)]
    exact hr i i1 i2 (q.2.2.2.2.2.2.2.2.2 i i1 i2)
  rcases h with ⟨x, y, q⟩ | ⟨x, y, q⟩ | ⟨x, y, q⟩ | ⟨x, y, q⟩ | ⟨x, y, q⟩
  · exact Or.inl ⟨x, y, ee q⟩
  · exact Or.inr (Or.inl ⟨x, y, ww q⟩)
  · exact Or.inr (Or.inr (Or.inl ⟨x, y, pp q⟩))
  · exact Or.inr (Or.inr (Or.inr (Or.inl ⟨x, y, ee q⟩)))
  · exact Or.inr (Or.inr (Or.inr (Or.inr ⟨x, y, q.elim (fun q => Or.inl (ee q)) (fun q => Or.inr (pp q))⟩)))
theorem iv_mu_cg {t : Int} (h : iv_mu S t) (K : ∀ (k1 : Nat) (i : Int), k1 ≠ 4 ∧ k1 ≠ 5 ∧ k1 ≠ 33 ∧ k1 ≠ 34 ∧ k1 ≠ 35 ∧ k1 ≠ 36 ∧ k1 ≠ 37 → S1 k1 i = S k1 i) : iv_mu S1 t := by
  unfold iv_mu at h ⊢
  rw [K 18 _ (by decide), K 19 _ (by decide), K 28 _ (by decide), K 29 _ (by decide), K 30 _ (by decide), K 31 _ (by decide), K 32 _ (by decide)]
  exact ⟨h.1, h.2.1, iv_e_cg h.2.2.1 (fun k1 i q => K k1 i (by omega)), h.2.2.2⟩
theorem iE.next {m : Nat} {i : Int} (h : iE S loc D F s (m + 1) i) (i0 : 0 ≤ i) (h3 : i < S 13 s) (h1 : 0 ≤ s) (h2 : s < 12) (c7 : S 7 s = 1) : ∃ loc', iE (@ite _ (sq_wants S s i) sq_wants_d (sq_put1 S s i) S) loc' D F s m (i + 1) := by
  obtain ⟨h0, a, z, b, l, p, mm, le, q1, q2, q3, fi, rm, nl, pc⟩ := h
  have g33 := a.g33
  have ou := (l.li s h1 h2 c7).2
  have o3 := ou.2 i i0 h3
  have o1 := ou.1
  have pci := pc i i0 (by omega)
  have q1 : sp_sum (ps_l S loc) (S 33 0).toNat + sp_sum (ps_x S s) 12 + (S 109 (3 * s + i) + sp_ts (sq_109 S s) m (i + 1)) * mx (S 36 (S 21 s)) ≤ ps_b D * F := q1
  have nl : S 33 0 + (sq_nr S s i + sp_ts (sq_nr S s) m (i + 1)) ≤ 1500 := nl
  have lw0 : ∀ b j, 0 ≤ sq_lw1 S s b j := fun b j => by unfold sq_lw1; split <;> omega
  have nr0 : ∀ j, 0 ≤ sq_nr S s j := fun j => by unfold sq_nr; split <;> omega
  by_cases w : sq_wants S s i
  · rw [if_pos w]
    have K := fun (k : Nat) (j : Int) (a : k ≠ 34 ∧ k ≠ 35 ∧ k ≠ 36 ∧ k ≠ 33 ∧ k ≠ 37 ∧ k ≠ 4 ∧ k ≠ 5) => sq_put1_k (S := S) (s := s) (o := i) (i := j) a.1 a.2.1 a.2.2.1 a.2.2.2.1 a.2.2.2.2.1 a.2.2.2.2.2.1 a.2.2.2.2.2.2
    have f4 := fun j => sq_put1_4 (S := S) (s := s) (o := i) (i := j)
    have rmi : S 4 (S 14 (3 * s + i)) < S 3 (S 14 (3 * s + i)) := by
      have q : S 4 (S 14 (3 * s + i)) + (sq_lw1 S s (S 14 (3 * s + i)) i + sp_ts (sq_lw1 S s (S 14 (3 * s + i))) m (i + 1)) ≤ S 3 (S 14 (3 * s + i)) := rm i (Int.le_refl i) h3 w
      have e1 : sq_lw1 S s (S 14 (3 * s + i)) i = 1 := by unfold sq_lw1; rw [if_pos ⟨rfl, w⟩]
      have := sp_ts_0 m (i + 1) (lw0 (S 14 (3 * s + i)))
      omega
    have ew : ∀ o, sq_wants (sq_put1 S s i) s o ↔ sq_wants S s o := fun o => by
      unfold sq_wants
      rw [K 21 _ (by decide), K 108 _ (by decide), K 109 _ (by decide)]
    have enr : sq_nr (sq_put1 S s i) s = sq_nr S s := by
      funext o
      unfold sq_nr
      rw [K 109 _ (by decide)]
    have e109 : sq_109 (sq_put1 S s i) s = sq_109 S s := by
      funext o
      unfold sq_109
      rw [K 109 _ (by decide)]
    have elw : ∀ b, sq_lw1 (sq_put1 S s i) s b = sq_lw1 S s b := fun b => by
      funext o
      unfold sq_lw1
      rw [K 14 _ (by decide)]
      exact ite_dc (and_congr Iff.rfl (ew o))
    have rm' : ∀ o, i + 1 ≤ o → o < sq_put1 S s i 13 s → sq_wants (sq_put1 S s i) s o → sq_put1 S s i 4 (sq_put1 S s i 14 (3 * s + o)) + sp_ts (sq_lw1 (sq_put1 S s i) s (sq_put1 S s i 14 (3 * s + o))) m (i + 1) ≤ sq_put1 S s i 3 (sq_put1 S s i 14 (3 * s + o)) := fun o o1 o2 o3 => by
      rw [K 13 _ (by decide)] at o2
      rw [ew] at o3
      rw [K 14 _ (by decide), elw, f4, K 3 _ (by decide)]
      have q : S 4 (S 14 (3 * s + o)) + (sq_lw1 S s (S 14 (3 * s + o)) i + sp_ts (sq_lw1 S s (S 14 (3 * s + o))) m (i + 1)) ≤ S 3 (S 14 (3 * s + o)) := rm o (by omega) o2 o3
      split
      · rename_i d
        have : sq_lw1 S s (S 14 (3 * s + o)) i = 1 := by
          unfold sq_lw1
          rw [if_pos ⟨d.symm, w⟩]
        omega
      · have := lw0 (S 14 (3 * s + o)) i
        omega
    have hr' : ∀ t j, 0 ≤ j → j < S 11 t → S 4 (S 12 (2 * t + j)) ≤ S 3 (S 12 (2 * t + j)) → sq_put1 S s i 4 (S 12 (2 * t + j)) ≤ S 3 (S 12 (2 * t + j)) := fun t j _ _ q => by
      rw [f4]
      split
      · rename_i e
        rw [e] at q ⊢
        omega
      · exact q
    by_cases d : i = S 108 s
    · -- the first lot itself
      have e1 : sq_put1 S s i = sp_puts S (S 14 (3 * s + i)) (S 21 s) := by unfold sq_put1; rw [if_pos d]
      have P : ∀ (k1 : Nat) (j : Int), k1 ≠ 5 ∧ k1 ≠ 4 → sq_put1 S s i k1 j = S k1 j := fun k1 j q => by rw [e1]; exact sp_puts_k' q.1 q.2
      have l20 := fi.2.2 (by omega)
      have B := b.puts (b := S 14 (3 * s + i)) (l := S 21 s) (by omega) o3.1.1 o3.1.2 rmi fi.1 g33.2 (fun x x1 x2 => by omega)
      rw [← e1] at B
      have z109 := pci.2 d
      refine ⟨_, ?_, iA_cg a (fun k1 j q => P k1 j (by omega)), iZ_cg z (fun k1 j q => P k1 j (by omega)), B, iL_cg l (fun k1 j q => P k1 j (by omega)), ?_, fun t t1 t2 t3 => ⟨fun c => ?_, fun c => ?_⟩, ?_, ?_, ?_, q3, ?_, rm', ?_, ?_⟩
      · rw [P 0 _ (by decide)]; exact h0
      · obtain ⟨a1, b1', b1'', d1, e1', g1, i1, j1, l1, m1⟩ := p
        have hp : iP S (lc loc (S 21 s) (S 14 (3 * s + i) + 1)) := ⟨a1, b1', b1'', d1, e1', g1, i1, j1, fun j x1 x2 => ⟨(l1 j x1 x2).1, by rw [lc_n (fun e => by have := (l1 j x1 x2).2.1; rw [e] at this; omega)]; exact (l1 j x1 x2).2.1, (l1 j x1 x2).2.2⟩, m1⟩
        exact iP_cg hp (fun k1 j q => P k1 j (by omega))
      · rw [P 7 _ (by decide)] at c
        refine iv_md_fr ((mm t t1 t2 t3).1 c) (fun k1 j q => P k1 j ⟨q.2.1, q.1⟩) (fun j _ => ⟨P 34 _ (by decide), P 35 _ (by decide)⟩) (by rw [P 33 _ (by decide)]; omega) (fun x x1 x2 x3 => ?_) (hr' t)
        rw [lc_n (fun e => by rw [e, l20] at x3; omega)]
        exact x3
      · rw [P 7 _ (by decide)] at c
        exact iv_mu_cg ((mm t t1 t2 t3).2 c) (fun k1 j q => P k1 j ⟨q.2.1, q.1⟩)
      · intro t g t1 t2 t3 t4
        rw [P 27 _ (by decide), P 7 _ (by decide)]; exact le t g t1 t2 t3 t4
      · have s1 : sp_sum (ps_l (sq_put1 S s i) (lc loc (S 21 s) (S 14 (3 * s + i) + 1))) (S 33 0).toNat = sp_sum (ps_l S loc) (S 33 0).toNat := sm_cg _ (fun j j1 j2 => by
          unfold ps_l
          rw [P 34 _ (by decide), P 36 _ (by decide)]
          by_cases e : j = S 21 s
          · rw [e, lc_y, if_neg (by omega), if_neg fi.2.1]
          · rw [lc_n e])
        have s2 : sp_sum (ps_x (sq_put1 S s i) s) 12 = sp_sum (ps_x S s) 12 := sm_cg _ (fun j j1 j2 => by
          unfold ps_x ps_s
          rw [P 21 _ (by decide), P 109 _ (by decide), P 109 _ (by decide), P 109 _ (by decide), P 36 _ (by decide)])
        rw [P 33 _ (by decide), s1, s2, e109, P 21 _ (by decide), P 36 _ (by decide)]
        rw [z109, Int.zero_add] at q1
        exact q1
      · have s3 : sp_sum (ps_n (lc loc (S 21 s) (S 14 (3 * s + i) + 1))) (S 33 0).toNat = sp_sum (ps_n loc) (S 33 0).toNat := sm_cg _ (fun j j1 j2 => by
          unfold ps_n
          by_cases e : j = S 21 s
          · rw [e, lc_y, if_neg (by omega), if_neg fi.2.1]
          · rw [lc_n e])
        rw [P 33 _ (by decide), s3]; exact q2
      · rw [P 21 _ (by decide), P 33 _ (by decide), P 108 _ (by decide), lc_y]
        exact ⟨fi.1, by omega, fun q => by omega⟩
      · rw [P 33 _ (by decide), enr]
        have := nr0 i
        omega
      · intro o x1 x2
        rw [P 109 _ (by decide), P 108 _ (by decide)]
        exact pc o x1 x2
    · -- a new lot
      have gp : 0 < S 109 (3 * s + i) := by
        rcases w.2 with q | q
        · exact absurd q d
        · exact q
      have n33 : S 33 0 < 1500 := by
        have : sq_nr S s i = 1 := by unfold sq_nr; rw [if_pos gp]
        have := sp_ts_0 (g := sq_nr S s) m (i + 1) nr0
        omega
      have e1 : sq_put1 S s i = sp_puts (sq_split S (S 21 s) (S 109 (3 * s + i)) (sp_hi S (S 21 s) i)) (S 14 (3 * s + i)) (S 33 0) := by unfold sq_put1; rw [if_neg d]
      have fl := z.lo _ fi.1.1 fi.1.2
      have hb : 0 ≤ sp_hi S (S 21 s) i ∧ sp_hi S (S 21 s) i ≤ 9 := by
        have := fl.2.1
        unfold sp_hi
        split <;> omega
      have at' := sq_split_at (S := S) (l := S 21 s) (g := S 109 (3 * s + i)) (gr := sp_hi S (S 21 s) i)
      have lt' := fun j (q : j < S 33 0) => sq_split_lt (S := S) (l := S 21 s) (g := S 109 (3 * s + i)) (gr := sp_hi S (S 21 s) i) (i := j) q
      have lt37 := fun j (q : j < 4 * S 33 0) => sq_split_37 (S := S) (l := S 21 s) (g := S 109 (3 * s + i)) (gr := sp_hi S (S 21 s) i) (i := j) q
      have zl' := sq_split_zl (l := S 21 s) (g := S 109 (3 * s + i)) (gr := sp_hi S (S 21 s) i) z.zl
      have t33 := sq_split_33 (S := S) (l := S 21 s) (g := S 109 (3 * s + i)) (gr := sp_hi S (S 21 s) i)
      have TK := fun (k : Nat) (j : Int) (a : k ≠ 34 ∧ k ≠ 35 ∧ k ≠ 36 ∧ k ≠ 33 ∧ k ≠ 37) => sq_split_k (S := S) (l := S 21 s) (g := S 109 (3 * s + i)) (gr := sp_hi S (S 21 s) i) (i := j) a.1 a.2.1 a.2.2.1 a.2.2.2.1 a.2.2.2.2
      generalize sq_split S (S 21 s) (S 109 (3 * s + i)) (sp_hi S (S 21 s) i) = T at e1 at' lt' lt37 zl' t33 TK
      have zT : iZ T := by
        refine ⟨zl', fun x x1 x2 => ?_⟩
        rw [t33] at x2
        unfold iv_l
        by_cases e : x = S 33 0
        · rw [e, at'.1, at'.2.1, at'.2.2.1, (at'.2.2.2 fi.1.2).1, (at'.2.2.2 fi.1.2).2.1, (at'.2.2.2 fi.1.2).2.2.1, (at'.2.2.2 fi.1.2).2.2.2]
          exact ⟨by omega, hb, fl.2.2⟩
        · rw [(lt' x (by omega)).1, (lt' x (by omega)).2.1, (lt' x (by omega)).2.2, lt37 _ (by omega), lt37 _ (by omega), lt37 _ (by omega), lt37 _ (by omega)]
          exact z.lo x x1 (by omega)
      have bT : iB T (lc loc (S 33 0) 0) := by
        obtain ⟨a1, a2, a3, a4, a5, a6, a7, a8⟩ := b
        refine ⟨?_, ?_, ?_, ?_, fun c j c1 c2 i1 i2 => ?_, ?_, fun q => ?_, fun q => ?_⟩
        · simp only [TK 3 _ (by decide)]; exact a1
        · simp only [TK 3 _ (by decide), TK 4 _ (by decide), TK 6 _ (by decide)]; exact a2
        · simp only [TK 6 _ (by decide)]; exact a3
        · simp only [iv_r5, TK 5 _ (by decide)]; exact a4
        · rw [TK 4 _ (by decide)] at i2
          have q := a5 c j c1 c2 i1 i2
          rw [TK 5 _ (by decide), t33, lc_n (by omega)]
          exact ⟨by omega, q.2⟩
        · simp only [TK 4 _ (by decide), TK 5 _ (by decide)]; exact a6
        · rw [TK 0 _ (by decide)] at q; omega
        · rw [TK 0 _ (by decide)] at q; omega
      have bU := bT.puts (b := S 14 (3 * s + i)) (l := S 33 0) (by rw [TK 0 _ (by decide)]; omega) o3.1.1 o3.1.2 (by rw [TK 4 _ (by decide), TK 3 _ (by decide)]; exact rmi) (by rw [t33]; omega) (by rw [t33]; omega) (fun x x1 x2 => by rw [lc_y]; omega)
      have elc : lc (lc loc (S 33 0) 0) (S 33 0) (S 14 (3 * s + i) + 1) = lc loc (S 33 0) (S 14 (3 * s + i) + 1) := by
        funext x
        unfold lc
        split <;> rfl
      rw [elc, ← e1] at bU
      have P : ∀ (k1 : Nat) (j : Int), k1 ≠ 5 ∧ k1 ≠ 4 → sq_put1 S s i k1 j = T k1 j := fun k1 j q => by rw [e1]; exact sp_puts_k' q.1 q.2
      have u33 : (T 33 0).toNat = (S 33 0).toNat + 1 := by rw [t33]; omega
      have cast : (((S 33 0).toNat : Nat) : Int) = S 33 0 := by omega
      refine ⟨_, ?_, ⟨?_, ?_, ?_, ?_⟩, iZ_cg zT (fun k1 j q => P k1 j (by omega)), bU, iL_cg l (fun k1 j q => K k1 j (by omega)), ?_, fun t t1 t2 t3 => ⟨fun c => ?_, fun c => ?_⟩, ?_, ?_, ?_, q3, ?_, rm', ?_, ?_⟩
      · rw [K 0 _ (by decide)]; exact h0
      · rw [K 0 _ (by decide)]; exact a.g0
      · rw [K 1 _ (by decide)]; exact a.g1
      · rw [K 2 _ (by decide)]; exact a.g2
      · rw [P 33 _ (by decide), t33]; omega
      · obtain ⟨a1, b1', b1'', d1, e1', g1, i1, j1, l1, m1⟩ := p
        have e42 : sq_put1 S s i 42 = S 42 := funext (fun i => K 42 i (by decide))
        have al : ∀ j, 0 ≤ j → j < S 43 0 → (0 ≤ S 44 j ∧ S 44 j < sq_put1 S s i 33 0) ∧ lc loc (S 33 0) (S 14 (3 * s + i) + 1) (S 44 j) = 0 ∧ S 101 j = sq_put1 S s i 34 (S 44 j) := fun j x1 x2 => by
          have q := l1 j x1 x2
          rw [P 33 _ (by decide), t33, P 34 _ (by decide), (lt' _ q.1.2).1, lc_n (by omega)]
          exact ⟨by omega, q.2⟩
        refine ⟨?_, ?_, ?_, ?_, ?_, ?_, ?_, ?_, ?_, ?_⟩ <;> simp only [iv_plans, e42, K 2 _ (by decide), K 7 _ (by decide), K 28 _ (by decide), K 32 _ (by decide), K 38 _ (by decide), K 39 _ (by decide), K 40 _ (by decide), K 41 _ (by decide), K 43 _ (by decide), K 44 _ (by decide), K 101 _ (by decide), K 102 _ (by decide)] <;> assumption
      · rw [K 7 _ (by decide)] at c
        refine iv_md_fr ((mm t t1 t2 t3).1 c) (fun k1 j q => K k1 j (by omega)) (fun j q => ⟨by rw [P 34 _ (by decide), (lt' j q).1], by rw [P 35 _ (by decide), (lt' j q).2.1]⟩) (by rw [P 33 _ (by decide), t33]; omega) (fun x x1 x2 x3 => ?_) (hr' t)
        rw [lc_n (by omega)]
        exact x3
      · rw [K 7 _ (by decide)] at c
        exact iv_mu_cg ((mm t t1 t2 t3).2 c) (fun k1 j q => K k1 j (by omega))
      · intro t g t1 t2 t3 t4
        rw [K 27 _ (by decide), K 7 _ (by decide)]; exact le t g t1 t2 t3 t4
      · have s1 : sp_sum (ps_l (sq_put1 S s i) (lc loc (S 33 0) (S 14 (3 * s + i) + 1))) (S 33 0).toNat = sp_sum (ps_l S loc) (S 33 0).toNat := sm_cg _ (fun j j1 j2 => by
          have n1 : j ≠ S 33 0 := by omega
          have a1 : sq_put1 S s i 34 j = S 34 j := by rw [P 34 _ (by decide), (lt' j (by omega)).1]
          have a2 : sq_put1 S s i 36 j = S 36 j := by rw [P 36 _ (by decide), (lt' j (by omega)).2.2]
          unfold ps_l
          rw [lc_n n1, a1, a2])
        have sN : ps_l (sq_put1 S s i) (lc loc (S 33 0) (S 14 (3 * s + i) + 1)) (S 33 0) = S 109 (3 * s + i) * mx (S 36 (S 21 s)) := by
          unfold ps_l
          rw [lc_y, if_neg (by omega), P 34 _ (by decide), P 36 _ (by decide), at'.1, at'.2.2.1]
        have s2 : sp_sum (ps_x (sq_put1 S s i) s) 12 = sp_sum (ps_x S s) 12 := sm_cg _ (fun j j1 j2 => by
          unfold ps_x
          split
          · rfl
          · rename_i ne
            unfold ps_s
            rw [K 21 _ (by decide), K 109 _ (by decide), K 109 _ (by decide), K 109 _ (by decide)]
            split
            · rfl
            · rename_i c
              have fj : S 21 j < S 33 0 := by
                have h7 := l.s7 j j1 (by omega)
                have q := mm j j1 (by omega) ne
                by_cases c7j : S 7 j = 1
                · rcases q.1 c7j with ⟨-, -, q⟩ | ⟨-, -, q⟩ | ⟨-, -, q⟩ | ⟨-, -, q⟩ | ⟨-, -, q⟩
                  · exact absurd q.1 c
                  · exact q.1.1.2
                  · exact q.1.1.2
                  · exact absurd q.1 c
                  · rcases q with q | q
                    · exact absurd q.1 c
                    · exact q.1.1.2
                · exact absurd (q.2 (by omega)).2.2.1.1 c
              rw [P 36 _ (by decide), (lt' _ fj).2.2])
        rw [P 33 _ (by decide), u33]
        show sp_sum (ps_l (sq_put1 S s i) (lc loc (S 33 0) (S 14 (3 * s + i) + 1))) (S 33 0).toNat + ps_l (sq_put1 S s i) (lc loc (S 33 0) (S 14 (3 * s + i) + 1)) (((S 33 0).toNat : Nat) : Int) + _ + _ ≤ _
        rw [cast, s1, sN, s2, e109, K 21 _ (by decide), P 36 _ (by decide), (lt' _ fi.1.2).2.2]
        rw [Int.add_mul] at q1
        omega
      · have s3 : sp_sum (ps_n (lc loc (S 33 0) (S 14 (3 * s + i) + 1))) (S 33 0).toNat = sp_sum (ps_n loc) (S 33 0).toNat := sm_cg _ (fun j j1 j2 => by
          unfold ps_n
          rw [lc_n (by omega)])
        have sN : ps_n (lc loc (S 33 0) (S 14 (3 * s + i) + 1)) (S 33 0) = 1 := by
          unfold ps_n
          rw [lc_y, if_neg (by omega)]
        rw [P 33 _ (by decide), u33]
        show (D : Int) + (sp_sum (ps_n (lc loc (S 33 0) (S 14 (3 * s + i) + 1))) (S 33 0).toNat + ps_n (lc loc (S 33 0) (S 14 (3 * s + i) + 1)) (((S 33 0).toNat : Nat) : Int)) ≤ _
        rw [cast, s3, sN, t33]
        omega
      · rw [K 21 _ (by decide), P 33 _ (by decide), t33, K 108 _ (by decide), lc_n (by omega)]
        exact ⟨by omega, fi.2.1, fun q => fi.2.2 (by omega)⟩
      · rw [P 33 _ (by decide), t33, enr]
        have : sq_nr S s i = 1 := by unfold sq_nr; rw [if_pos gp]
        omega
      · intro o x1 x2
        rw [K 109 _ (by decide), K 108 _ (by decide)]
        exact pc o x1 x2
  · rw [if_neg w]
    have z109 : S 109 (3 * s + i) = 0 := by
      have : ¬ 0 < S 109 (3 * s + i) := fun q => w ⟨by omega, Or.inr q⟩
      omega
    have d : i ≠ S 108 s := fun q => w ⟨by omega, Or.inl q⟩
    refine ⟨loc, h0, a, z, b, l, p, mm, le, ?_, q2, q3, ⟨fi.1, fi.2.1, fun q => fi.2.2 (by omega)⟩, fun o x1 x2 x3 => ?_, ?_, pc⟩
    · rw [z109, Int.zero_add] at q1
      exact q1
    · have q : S 4 (S 14 (3 * s + o)) + (sq_lw1 S s (S 14 (3 * s + o)) i + sp_ts (sq_lw1 S s (S 14 (3 * s + o))) m (i + 1)) ≤ S 3 (S 14 (3 * s + o)) := rm o (by omega) x2 x3
      have := lw0 (S 14 (3 * s + o)) i
      omega
    · have := nr0 i
      omega
end IvI
