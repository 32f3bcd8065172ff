-- deps: 30.mK 31.mL 32.mM 34.mN 37.mQ 38.mR 39.mS 43.cls 44.sta 44.stb 44.stc 44.std 45.cA 46.cB 47.cC 48.cD 49.cE 50.cF 54.cI 55.cJ 58.cM 59.cN 43.raw 51.cG 53.cH 56.cK 57.cL 52.cG2 60.cO 61.cP 62.cQ 64.iA 65.iB 66.iC 67.iD 68.iE 69.iF 70.iG 71.iH 72.iI 73.iJ 74.iK 75.iL 76.iM 77.iN 79.iR 80.iS 81.iT 82.iU 83.iV 84.iW 34.mN2 34.mN3 35.mO 36.mP 33.mM2
/-! ===== a stage puts, takes; the notes ===== -/
section IvX
variable {n r : Nat} {G : cz_G} {S U Y V C : az_M} {loc loc' : Int → Int} {D D' F : Nat} {s p t l b : Int} {f : Nat → az_C} {z : Nat × Nat}
theorem PU (h : Inv S loc D F) (h0 : S 0 0 = 1) (h1 : 0 ≤ s) (h2 : s < 12) (c : S 7 s = 1) : ∃ S' loc', Inv S' loc' D F ∧ su_fr S S' ∧ ((S 18 s = 2 ∧ sp_canPut S s ∧ ∀ n r f z, az_ex az_T (n + 2) 169 [.ref r, .int (Int32.ofInt s)] (az_RH r S f, z) none (az_RH r S' f, z)) ∨ (¬ (S 18 s = 2 ∧ sp_canPut S s) ∧ S' = S)) ∧ (∀ G f z, cz_W G S → cz_Fr G z → ∃ (G' : cz_G) (f' : Nat → az_C) (z' : Nat × Nat), cz_X G f z G' f' z' ∧ cz_W G' S' ∧ ∀ n, az_ex az_T (n + 6) 66 [.ref (G.ad 17), .ref (cz_as G s 0)] (cz_H G S f, z) none (cz_H G' S' f', z')) := by
  have ou := (h.l.li s h1 h2 c).2
  by_cases d : S 18 s = 2 ∧ sp_canPut S s
  · have pt := (h.pt s h1 h2 c d.1).2
    have cq := (iv_pt_canPut pt ou).mpr d.2
    obtain ⟨loc', iv⟩ := h.put h0 h1 h2 c d.1 cq
    have k : ∀ (k : Nat) (j : Int), k = 0 ∨ k = 2 ∨ k = 3 ∨ k = 7 → su_put S s k j = S k j := fun k j q => by
      unfold su_put su_e sq_fill
      rw [az_up_kn (by omega), az_up_kn (by omega), az_up_kn (by omega), az_up_kn (by omega), az_up_kn (by omega), az_up_kn (by omega), az_up_kn (by omega), az_up_kn (by omega), sq_putF_13 (s := s) (S 13 s).toNat 0 S k j (by omega) (by omega) (by omega) (by omega) (by omega) (by omega) (by omega)]
    refine ⟨su_put S s, loc', iv, ⟨k 0 _ (by decide), k 2 _ (by decide), fun i => k 3 i (by decide), fun i => k 7 i (by decide)⟩, Or.inl ⟨d.1, d.2, fun n r f z => PUT_R h h1 h2 c d.1 d.2⟩, fun G f z hW hz => PUT_C h hW hz h1 h2 c d.1 cq⟩
  · refine ⟨S, loc, h, su_fr_rfl, Or.inr ⟨d, rfl⟩, fun G f z hW hz => ⟨G, f, z, cz_X_rfl hz, hW, fun n => cm_puN (hW.2.2.1 s h1 h2 c) hW (h.m18 s h1 h2) ou (h.ld s h1 h2) h.bins ?_⟩⟩
    intro q
    have pt := (h.pt s h1 h2 c q.1).2
    exact d ⟨q.1, (iv_pt_canPut pt ou).mp q.2⟩
theorem TK (h : Inv S loc D F) (h0 : S 0 0 = 1) (h1 : 0 ≤ s) (h2 : s < 12) (c : S 7 s = 1) : ∃ S' loc', Inv S' loc' D F ∧ su_fr S S' ∧ (∀ n r f z, az_ex az_T (n + 2) 172 [.ref r, .int (Int32.ofInt s)] (az_RH r S f, z) none (az_RH r S' f, z)) ∧ (∀ G f z, cz_W G S → cz_W G S' ∧ ∀ n, az_ex az_T (n + 3) 69 [.ref (G.ad 17), .ref (cz_as G s 0)] (cz_H G S f, z) none (cz_H G S' f, z)) := by
  have g33 := h.a.g33
  have la := h.l.la s h1 h2 c
  have st := h.l.st h0 s h1 h2 c
  have li := (h.l.li s h1 h2 c).1
  have i11 : S 11 s = 1 ∨ S 11 s = 2 := by
    have q := st.1
    unfold sp_insOf at q
    split at q <;> omega
  have ne : S 11 s = 2 → S 12 (2 * s + 1) ≠ S 12 (2 * s) := fun w q => by
    have := h.l.sd h0 s s 1 0 h1 h2 h1 h2 c c (by decide) (by omega) (by decide) (by omega) (by rw [Int.add_zero]; exact q)
    omega
  have m18 := h.m18 s h1 h2
  by_cases d : S 18 s = 0 ∧ sp_hasAll S s
  · obtain ⟨loc', iv⟩ := h.take h0 h1 h2 c d.1 d.2
    have k : ∀ (k : Nat) (j : Int), k = 0 ∨ k = 2 ∨ k = 3 ∨ k = 7 ∨ k = 33 → sp_bgU S s k j = S k j := fun k j q => by
      unfold sp_bgU sp_bg2
      rw [az_up_kn (by omega), az_up_kn (by omega)]
      split
      · rw [az_up_kn (by omega), sp_takes_k (by omega) (by omega), sp_bg1_k (by omega) (by omega) (by omega)]
      · rw [sp_bg1_k (by omega) (by omega) (by omega)]
    have e : S 21 s = -1 := by
      rcases h.m.md s h1 h2 c with ⟨x, y, q⟩ | ⟨x, y, q⟩ | ⟨x, y, q⟩ | ⟨x, y, q⟩ | ⟨x, y, q⟩
      · exact q.1
      · omega
      · omega
      · omega
      · omega
    refine ⟨sp_bgU S s, loc', iv, ⟨k 0 _ (by decide), k 2 _ (by decide), fun i => k 3 i (by decide), fun i => k 7 i (by decide)⟩, fun n r f z => cm_begins s ⟨h1, h2⟩ h.b.r5 h.bins (h.ins s h1 h2) (by omega) ne m18 la.2.2.2.1 _ (Or.inl ⟨rfl, d⟩), fun G f z hW => ⟨cz_W_cg hW (fun b => k 3 b (by decide)) (fun b => k 7 b (by decide)) (k 33 _ (by decide)), fun n => cm_tkY (hW.2.2.1 s h1 h2 c) hW d.1 li i11 h.bins h.b.r5 d.2 (fun q w => ne q w.symm) e la.2.2.2.1 ?_⟩⟩
    have l0 := li.2 0 (by decide) (by omega)
    rw [Int.add_zero] at l0
    have hA := d.2
    have p4 : 0 < S 4 (S 12 (2 * s)) := by
      have q := hA.1 (by omega)
      have := (h.b.b4 _ l0.1.1 l0.1.2).1
      omega
    have q := h.b.be _ 0 l0.1.1 l0.1.2 (by decide) p4
    rw [Int.add_zero] at q
    omega
  · exact ⟨S, loc, h, su_fr_rfl, fun n r f z => cm_begins s ⟨h1, h2⟩ h.b.r5 h.bins (h.ins s h1 h2) (by omega) ne m18 la.2.2.2.1 _ (Or.inr ⟨rfl, d⟩), fun G f z hW => ⟨hW, fun n => cm_tkN (hW.2.2.1 s h1 h2 c) hW m18 li h.bins d⟩⟩
theorem az_RH_w {i : Int} (o : Nat) (h1 : 1 ≤ o) (h : o < 45) (ht : az_tR o ≠ 2) : az_RH r (az_up S (az_kR o) i (az_w (S (az_kR o) i))) f = az_RH r S f := by
  unfold az_w
  rw [← az_RH_upI o h1 h ht]
  funext a
  unfold va_up
  split
  · rename_i e
    rw [e, az_RH_at o h]
    unfold az_cR
    rw [if_neg (by omega), if_neg ht]
    congr 1
    funext j
    unfold az_ui
    split
    · rename_i e2; rw [e2]
    · rfl
  · rfl
theorem az_RH_29 {i : Int} : az_RH r (az_up S 29 i (az_w (S 29 i))) f = az_RH r S f := az_RH_w 27 (by decide) (by decide) (by decide)
theorem az_RH_30 {i : Int} : az_RH r (az_up S 30 i (az_w (S 30 i))) f = az_RH r S f := az_RH_w 28 (by decide) (by decide) (by decide)
theorem az_RH_31 {i : Int} : az_RH r (az_up S 31 i (az_w (S 31 i))) f = az_RH r S f := az_RH_w 29 (by decide) (by decide) (by decide)
theorem sq_note_k {k : Nat} {i : Int} (h : k ≠ 29) (h' : k ≠ 30) (h'' : k ≠ 31) : sq_note S s k i = S k i := by
  unfold sq_note
  split
  · exact az_up_kn h
  · split
    · exact az_up_kn h'
    · split
      · exact az_up_kn h''
      · rfl
theorem Inv.note (h : Inv S loc D F) (h0 : S 0 0 = 1) (c : S 7 s = 1) : Inv (sq_note S s) loc D F := by
  have K : ∀ (k : Nat) (i : Int), k ≠ 29 ∧ k ≠ 30 ∧ k ≠ 31 → sq_note S s k i = S k i := fun k i q => sq_note_k q.1 q.2.1 q.2.2
  have N : ∀ (k : Nat) (i : Int), i ≠ s → sq_note S s k i = S k i := fun k i e => by
    have w : ∀ (a : Nat) (v : Int), az_up S a s v k i = S k i := fun a v => by
      rw [az_up_ap, if_neg e]
      split <;> rfl
    unfold sq_note
    split
    · exact w _ _
    · split
      · exact w _ _
      · split
        · exact w _ _
        · rfl
  refine ⟨iA_cg h.a (fun k i q => K k i (by omega)), iZ_cg h.z (fun k i q => K k i (by omega)), iB_cg h.b (fun k i q => K k i (by omega)), iL_cg h.l (fun k i q => K k i (by omega)), ?_, iP_cg h.p (fun k i q => K k i (by omega)), iQ_cg h.q (fun k i q => K k i (by omega))⟩
  refine ⟨fun x x1 x2 x3 => ?_, fun q => ?_, fun x x1 x2 x3 => ?_, fun x g x1 x2 x3 x4 => ?_⟩
  · rw [K 7 _ (by decide)] at x3
    rw [K 18 _ (by decide), K 19 _ (by decide)]
    exact iv_md_cg (h.m.md x x1 x2 x3) (fun k i q => K k i (by omega))
  · rw [K 0 _ (by decide)] at q; omega
  · rw [K 7 _ (by decide)] at x3
    have q := h.m.mu x x1 x2 x3
    have e : x ≠ s := fun q => by rw [q] at x3; omega
    rw [N 18 _ e, N 19 _ e, N 28 _ e, N 32 _ e, N 29 _ e, N 30 _ e, N 31 _ e]
    exact ⟨q.1, q.2.1, iv_e_cg q.2.2.1 (fun k1 i w => K k1 i (by omega)), q.2.2.2⟩
  · rw [K 27 _ (by decide), K 7 _ (by decide)]; exact h.m.le x g x1 x2 x3 x4
def su_nb (S : az_M) (b : Int) : az_M := az_up S 6 b (if S 6 b < S 4 b then S 4 b else S 6 b)
theorem Inv.noteB (h : Inv S loc D F) (h0 : S 0 0 = 1) (b1 : 0 ≤ b) (b2 : b < 16) : Inv (su_nb S b) loc D F := by
  have K : ∀ (k : Nat) (i : Int), k ≠ 6 → su_nb S b k i = S k i := fun k i q => az_up_kn q
  have e6 : ∀ i, su_nb S b 6 i = if i = b then (if S 6 b < S 4 b then S 4 b else S 6 b) else S 6 i := fun i => az_up_at
  obtain ⟨a1, a2, a3, a4, a5, a6, a7, a8⟩ := h.b
  refine ⟨iA_cg h.a (fun k i q => K k i (by omega)), iZ_cg h.z (fun k i q => K k i (by omega)), ?_, iL_cg h.l (fun k i q => K k i (by omega)), ?_, iP_cg h.p (fun k i q => K k i (by omega)), iQ_cg h.q (fun k i q => K k i (by omega))⟩
  · refine ⟨?_, fun x x1 x2 => ?_, fun x x1 x2 => ?_, ?_, ?_, ?_, fun q => ?_, fun q => ?_⟩
    · simp only [K 3 _ (by decide)]; exact a1
    · rw [K 3 _ (by decide), K 4 _ (by decide), e6]
      have q := a2 x x1 x2
      refine ⟨q.1, fun w => ?_⟩
      have q2 := q.2 w
      refine ⟨q2.1, ?_⟩
      split
      · rename_i e
        rw [e] at q2
        rw [if_neg (by omega)]
        exact q2.2
      · exact q2.2
    · rw [e6]
      have q := a3 x x1 x2
      have q4 := a2 x x1 x2
      have q5 := a1 x x1 x2
      split
      · rename_i e
        rw [e] at q q4 q5
        split <;> omega
      · exact q
    · intro i i1 i2; rw [K 5 _ (by decide)]; exact a4 i i1 i2
    · simp only [K 4 _ (by decide), K 5 _ (by decide), K 33 _ (by decide)]; exact a5
    · simp only [K 4 _ (by decide), K 5 _ (by decide)]; exact a6
    · rw [K 0 _ (by decide)] at q; omega
    · rw [K 0 _ (by decide)] at q; omega
  · refine ⟨fun x x1 x2 x3 => ?_, fun q => ?_, fun x x1 x2 x3 => ?_, fun x g x1 x2 x3 x4 => ?_⟩
    · rw [K 7 _ (by decide)] at x3
      rw [K 18 _ (by decide), K 19 _ (by decide)]
      exact iv_md_cg (h.m.md x x1 x2 x3) (fun k i q => K k i (by omega))
    · rw [K 0 _ (by decide)] at q; omega
    · rw [K 7 _ (by decide)] at x3
      have q := h.m.mu x x1 x2 x3
      rw [K 18 _ (by decide), K 19 _ (by decide), K 28 _ (by decide), K 32 _ (by decide), K 29 _ (by decide), K 30 _ (by decide), K 31 _ (by decide)]
      exact ⟨q.1, q.2.1, iv_e_cg q.2.2.1 (fun k1 i w => K k1 i (by omega)), q.2.2.2⟩
    · rw [K 27 _ (by decide), K 7 _ (by decide)]; exact h.m.le x g x1 x2 x3 x4
theorem Inv.tick (h : Inv S loc D F) (hb : S 2 0 < 5000) : Inv (az_up S 2 0 (S 2 0 + 1)) loc D F := by
  have K : ∀ (k : Nat) (i : Int), k ≠ 2 → az_up S 2 0 (S 2 0 + 1) k i = S k i := fun k i q => az_up_kn q
  have e2 : az_up S 2 0 (S 2 0 + 1) 2 0 = S 2 0 + 1 := az_up_ee
  generalize az_up S 2 0 (S 2 0 + 1) = U at K e2
  obtain ⟨p1, p2, p3, p4, p5, p6, p7, p8, p9, p10⟩ := h.p
  refine ⟨⟨by rw [K 0 _ (by decide)]; exact h.a.g0, by rw [K 1 _ (by decide)]; exact h.a.g1, by rw [e2]; have := h.a.g2; omega, by rw [K 33 _ (by decide)]; exact h.a.g33⟩, iZ_cg h.z (fun k i q => K k i (by omega)), iB_cg h.b (fun k i q => K k i (by omega)), iL_cg h.l (fun k i q => K k i (by omega)), ?_, ?_, iQ_cg h.q (fun k i q => K k i (by omega))⟩
  · refine ⟨fun x x1 x2 x3 => ?_, fun q => ?_, fun x x1 x2 x3 => ?_, fun x g x1 x2 x3 x4 => ?_⟩
    · rw [K 7 _ (by decide)] at x3
      rw [K 18 _ (by decide), K 19 _ (by decide)]
      exact iv_md_cg (h.m.md x x1 x2 x3) (fun k i q => K k i (by omega))
    · rw [K 0 _ (by decide)] at q
      simp only [K 18 _ (by decide)]
      exact h.m.m0 q
    · rw [K 7 _ (by decide)] at x3
      have q := h.m.mu x x1 x2 x3
      rw [K 18 _ (by decide), K 19 _ (by decide), K 28 _ (by decide), K 32 _ (by decide), K 29 _ (by decide), K 30 _ (by decide), K 31 _ (by decide)]
      exact ⟨q.1, q.2.1, iv_e_cg q.2.2.1 (fun k1 i w => K k1 i (by omega)), q.2.2.2⟩
    · rw [K 27 _ (by decide), K 7 _ (by decide)]; exact h.m.le x g x1 x2 x3 x4
  · refine ⟨?_, ?_, ?_, ?_, ?_, ?_, ?_, ?_, ?_, ?_⟩ <;> simp only [iv_plans, K 38 _ (by decide), K 39 _ (by decide), K 40 _ (by decide), K 41 _ (by decide), K 42 _ (by decide), K 7 _ (by decide), K 28 _ (by decide), K 102 _ (by decide), K 43 _ (by decide), K 44 _ (by decide), K 33 _ (by decide), K 101 _ (by decide), K 34 _ (by decide), K 32 _ (by decide), e2]
    · exact p1
    · exact p2
    · exact p3
    · exact p4
    · exact p5
    · intro s h1 h2
      have := p6 s h1 h2
      omega
    · rw [show U 42 = S 42 from funext (fun i => K 42 i (by decide))]; exact p7
    · exact p8
    · exact p9
    · exact p10
end IvX
