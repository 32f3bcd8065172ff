-- deps: 30.mK 31.mL 32.mM 34.mN 37.mQ 38.mR 39.mS 43.cls 44.sta 44.stb 44.stc 44.std 45.cA 46.cB 47.cC 48.cD 49.cE 50.cF 54.cI 55.cJ 58.cM 59.cN 43.raw 51.cG 53.cH 56.cK 57.cL 52.cG2 60.cO 61.cP 62.cQ 64.iA 65.iB 66.iC 67.iD 68.iE 69.iF 70.iG 72.iI 75.iL 76.iM 77.iN 79.iR 80.iS 81.iT 82.iU 34.mN2 34.mN3 35.mO 36.mP 33.mM2
/-! ===== a working ends with a fault: both sides ===== -/
section IvV
variable {n r : Nat} {G : cz_G} {S U Y V C : az_M} {loc loc' : Int → Int} {D D' F : Nat} {s p t l : Int} {f : Nat → az_C} {z : Nat × Nat} {P : Nat → Prop}
def agP (P : Nat → Prop) (V C : az_M) : Prop := ∀ k i, P k → V k i = C k i
theorem agP.up {a : Nat} {b x y : Int} (h : agP P V C) (e : x = y) : agP P (az_up V a b x) (az_up C a b y) := fun k i q => by
  rw [az_up_ap, az_up_ap, e, h k i q]
theorem agP.hi {a : Nat} {b x : Int} (h : agP P V C) (e : ¬ P a) : agP P (az_up V a b x) C := fun k i q => by
  rw [az_up_kn (show k ≠ a from fun w => e (w ▸ q))]
  exact h k i q
theorem agP.sets (h : agP P V C) (p43 : P 43) (p2 : P 2) (p52 : P 52) (p34 : P 34) : agP P (sp_sets V s l t) (sp_sets C s l t) := by
  unfold sp_sets
  split
  · exact h
  · rw [h 43 _ p43, h 2 _ p2, h 52 _ p52, h 34 _ p34]
    exact agP.up (agP.up (agP.up (agP.up (agP.up (agP.up h rfl) rfl) rfl) rfl) rfl) rfl
theorem agP.qsets (h : agP P V C) (p43 : P 43) (p2 : P 2) (p52 : P 52) (p34 : P 34) : agP P (sq_sets V s l t) (sq_sets C s l t) := by
  unfold sq_sets
  split
  · exact h
  · rw [h 43 _ p43, h 34 _ p34]
    exact agP.up (agP.sets h p43 p2 p52 p34) rfl
theorem agP.rsets (h : agP P V C) (p43 : P 43) (p2 : P 2) (p52 : P 52) (p34 : P 34) (p101 : ¬ P 101) : agP P (sq_sets V s l t) (sp_sets C s l t) := by
  unfold sq_sets
  split
  · rename_i e
    unfold sp_sets
    rw [if_pos e]
    exact h
  · exact agP.hi (agP.sets h p43 p2 p52 p34) p101
theorem agP.rf0 (h : agP (fun k => k < 55) V C) : agP (fun k => k < 55) (sq_f0 V s t) (sp_f0 C s t) := by
  unfold sq_f0 sp_f0 sq_clear sq_fill
  rw [h 21 _ (by decide), h 22 _ (by decide), h 17 _ (by decide)]
  exact agP.up (agP.up (agP.hi (agP.hi (agP.hi (agP.hi (agP.up (agP.up (agP.rsets (agP.rsets h (by decide) (by decide) (by decide) (by decide) (by decide)) (by decide) (by decide) (by decide) (by decide) (by decide)) rfl) rfl) (by decide)) (by decide)) (by decide)) (by decide)) rfl) rfl
theorem agP.qf0 (h : agP (fun k => k ≠ 42) V C) : agP (fun k => k ≠ 42) (sq_f0 V s t) (sq_f0 C s t) := by
  unfold sq_f0 sq_clear sq_fill
  rw [h 21 _ (by decide), h 22 _ (by decide), h 17 _ (by decide)]
  exact agP.up (agP.up (agP.up (agP.up (agP.up (agP.up (agP.up (agP.up (agP.qsets (agP.qsets h (by decide) (by decide) (by decide) (by decide)) (by decide) (by decide) (by decide) (by decide)) rfl) rfl) rfl) rfl) rfl) rfl) rfl) rfl
theorem agP.rf1 (h : agP (fun k => k < 55) V C) : agP (fun k => k < 55) (sp_f1 V s) (sp_f1 C s) := by
  unfold sp_f1 sp_part
  rw [h 21 _ (by decide), h 34 _ (by decide), h 35 _ (by decide), h 23 _ (by decide)]
  exact agP.up (agP.up (agP.up (agP.up (agP.up (agP.up h rfl) rfl) rfl) rfl) rfl) rfl
theorem sp_way_cg (h16 : ∀ i, V 16 i = C 16 i) (h8 : ∀ i, V 8 i = C 8 i) : sp_way V s t = sp_way C s t := by
  unfold sp_way
  rw [h16, h8]
theorem iv_st_cg {i : Int} (h : iv_st S i) (hk : ∀ k i, k = 4 ∨ k = 5 ∨ k = 7 ∨ k = 11 ∨ k = 12 ∨ k = 18 ∨ k = 21 ∨ k = 22 → V k i = S k i) : iv_st V i := by
  unfold iv_st iv_gb iv_r5 at h ⊢
  simp only [hk 4 _ (by decide), hk 5 _ (by decide), hk 7 _ (by decide), hk 11 _ (by decide), hk 12 _ (by decide), hk 18 _ (by decide), hk 21 _ (by decide), hk 22 _ (by decide)]
  exact h
theorem iw_st_cg {i : Int} (h : iw_st S i) (hk : ∀ k i, k = 3 ∨ k = 4 ∨ k = 5 ∨ k = 7 ∨ k = 11 ∨ k = 12 ∨ k = 18 ∨ k = 21 ∨ k = 22 ∨ k = 108 ∨ k = 109 → V k i = S k i) : iw_st V i := by
  refine ⟨iv_st_cg h.1 (fun k i q => hk k i (by omega)), fun s a b c d => ?_⟩
  rw [hk 7 _ (by decide)] at c
  rw [hk 18 _ (by decide)] at d
  have q := h.2 s a b c d
  unfold iw_gb iv_gb iv_inb at q ⊢
  simp only [hk 3 _ (by decide), hk 4 _ (by decide), hk 5 _ (by decide), hk 7 _ (by decide), hk 11 _ (by decide), hk 12 _ (by decide), hk 18 _ (by decide), hk 21 _ (by decide), hk 22 _ (by decide), hk 108 _ (by decide), hk 109 _ (by decide)]
  exact q
theorem iv_st.gb (h : iv_st S 0) (h1 : 0 ≤ s) (h2 : s < 12) (h7 : S 7 s = 1) (h18 : S 18 s = 1) : iv_st (sp_gb S s) 0 := by
  obtain ⟨h5, hb, hd, hg⟩ := h
  have gi := hg s h1 h2 h7 h18
  refine ⟨(sp_gb_r5 gi h5).2.2, fun u a b => ?_, fun u t a b => ?_, fun u a b => ?_⟩
  · have := hb u a b
    simp (disch := decide) only [sp_gb_k, sp_gb_21, sp_gb_22]
    grind
  · simp (disch := decide) only [sp_gb_k]
    exact hd u t a b
  · intro q1 q2
    rw [sp_gb_k (by decide) (by decide) (by decide) (by decide)] at q1 q2
    by_cases e : u = s
    · unfold iv_gb
      rw [sp_gb_21, sp_gb_22, if_pos e, if_pos e]
      exact ⟨Or.inl rfl, Or.inl rfl⟩
    · have gs := hg u a b q1 q2
      have n0 : ∀ a, 0 ≤ a → a < S 11 u → (S 21 s ≠ -1 → S 12 (2 * u + a) ≠ S 12 (2 * s)) ∧ (S 22 s ≠ -1 → S 12 (2 * u + a) ≠ S 12 (2 * s + 1)) := by
        intro x a1 a2
        refine ⟨fun q w => ?_, fun q w => ?_⟩
        · have := gi.1.resolve_left q
          have := hd u s x 0 a b h1 h2 q1 h7 a1 a2 (by decide) (by omega) (by rw [Int.add_zero]; exact w)
          omega
        · have := gi.2.resolve_left q
          have := hd u s x 1 a b h1 h2 q1 h7 a1 a2 (by decide) (by omega) w
          omega
      have e4 : ∀ a, 0 ≤ a → a < S 11 u → sp_gb S s 4 (S 12 (2 * u + a)) = S 4 (S 12 (2 * u + a)) := fun a a1 a2 => sp_gb_4 (n0 a a1 a2).1 (n0 a a1 a2).2
      have e40 := e4 0
      have e41 := e4 1
      rw [Int.add_zero] at e40
      unfold iv_gb at gs ⊢
      simp (disch := decide) only [sp_gb_k, sp_gb_21, sp_gb_22, if_neg e]
      grind
/-- the reference's fault -/
theorem FLT_R (h : Inv S loc D F) (h0 : S 0 0 = 1) (h1 : 0 ≤ s) (h2 : s < 12) (c : S 7 s = 1) (m : S 18 s = 1) (hp : 0 ≤ p ∧ p < S 38 0) : az_ex az_T (n + 4) 162 [.ref r, .int (Int32.ofInt s), .int (Int32.ofInt (S 41 p))] (az_RH r (az_up (sp_tt S s) 42 p 1) f, z) none (az_RH r (sp_fails (az_up (sp_tt S s) 42 p 1) s (S 41 p)) f, z) := by
  have g2 := h.a.g2
  have g33 := h.a.g33
  have la := h.l.la s h1 h2 c
  have ru := h.l.ru s h1 h2 c
  obtain ⟨⟨f1, f2⟩, f3, f4, w23, w20, w108, w9, w91, w92, rm⟩ := (h.wk s h1 h2 c m).2
  have lot := h.lot f1.1 f1.2 (by omega)
  have f2' := iv_second h.m s h1 h2 (h.l.s7 s h1 h2)
  have pp := h.p.pl
  have tb := (pp.2 p hp.1 (by have := pp.1; omega)).2.2
  have r16 := ru.1 (S 41 p) (by omega) (by omega)
  have fr := h.p.fr s h1 h2
  have as0 := h.p.as
  have hc : S 102 0 ≤ 40 := by
    have := h.p.pc
    have := (sp_sum_b (g := S 42) (B := 1) 40 (fun i a b => h.p.pb i a (by omega))).2
    omega
  have st := (h.cst2 h0).1
  generalize hB : az_up (sp_tt S s) 42 p 1 = B
  have K : ∀ (k : Nat) (i : Int), k ≠ 19 ∧ k ≠ 28 ∧ k ≠ 42 → B k i = S k i := fun k i q => by
    rw [← hB, az_up_kn q.2.2, sp_tt_k q.1 q.2.1]
  have stB : iv_st (az_up B 32 s (az_w (B 32 s + 1))) 0 := iv_st_cg st (fun k i q => by rw [az_up_kn (by omega), K k i (by omega)])
  have stG := stB.gb h1 h2 (by rw [az_up_kn (by decide), K 7 _ (by decide)]; exact c) (by rw [az_up_kn (by decide), K 18 _ (by decide)]; exact m)
  have gb := st.2.2.2 s (by omega) h2 c m
  refine cm_fails s (S 41 p) ⟨h1, h2⟩ (by omega) (by rw [K 8 _ (by decide)]; exact la.1) (by rw [K 16 _ (by decide)]; exact r16) (by rw [K 32 _ (by decide)]; exact fr) (by rw [K 43 _ (by decide)]; omega) (by rw [K 2 _ (by decide)]; exact g2) (by rw [K 17 _ (by decide)]; exact ru.2) (by rw [K 21 _ (by decide)]; omega) (by rw [K 22 _ (by decide)]; rcases f2' with q | q <;> omega) (by rw [K 21 _ (by decide), K 34 _ (by decide)]; have := lot.2.1; omega) (by rw [K 21 _ (by decide), K 35 _ (by decide)]; exact lot.2.2.1) (by rw [K 23 _ (by decide)]; exact w23) (fun i a b => by rw [K 5 _ (by decide)]; exact st.1 i a b) ?_ stG
  unfold iv_gb at gb ⊢
  simp (disch := decide) only [K]
  exact gb
theorem FLT_Re (h : Inv S loc D F) (h0 : S 0 0 = 1) (h1 : 0 ≤ s) (h2 : s < 12) (c : S 7 s = 1) (m : S 18 s = 1) : az_RH r (sp_fails (az_up (sp_tt S s) 42 p 1) s t) f = az_RH r (su_fl S s p t) f := by
  have st := (h.cst2 h0).1
  have T : ∀ (k : Nat) (i : Int), k ≠ 19 ∧ k ≠ 28 → sp_tt S s k i = S k i := fun k i q => sp_tt_k q.1 q.2
  refine az_RH_cg (fun k hk i => ?_)
  have ew : sp_way (az_up (sp_tt S s) 42 p 1) s t = sp_way S s t := sp_way_cg (fun i => by rw [az_up_kn (by decide), T 16 _ (by decide)]) (fun i => by rw [az_up_kn (by decide), T 8 _ (by decide)])
  unfold sp_fails su_fl
  rw [ew, az_up_kn (k := 42) (k1 := 32) (by decide), T 32 _ (by decide), az_up_cm (k1 := 42) (k2 := 32) (by decide)]
  have ev : su_V S s p = az_up (az_up (az_up (sp_tt S s) 32 s (az_w (S 32 s + 1))) 42 p 1) 102 0 (S 102 0 + 1) := rfl
  generalize hC : az_up (az_up (sp_tt S s) 32 s (az_w (S 32 s + 1))) 42 p 1 = C at ev
  have K : ∀ (k : Nat) (i : Int), k ≠ 19 ∧ k ≠ 28 ∧ k ≠ 42 ∧ k ≠ 32 → C k i = S k i := fun k i q => by
    rw [← hC, az_up_kn q.2.2.1, az_up_kn q.2.2.2, T k i (by omega)]
  have ag : agP (fun k => k < 55) (su_V S s p) C := by
    rw [ev]
    exact agP.hi (fun _ _ _ => rfl) (by decide)
  split
  · exact (agP.rf0 ag k i hk).symm
  · split
    · exact (agP.rf1 ag k i hk).symm
    · rw [sp_stops_gb (iv_st_cg st (fun k i q => K k i (by omega))) h1 h2 (by rw [K 7 _ (by decide)]; exact c) (by rw [K 18 _ (by decide)]; exact m), ev]
      unfold sp_stops
      rw [sp_stF_up (by decide) (by decide) (by decide) (by decide) (by decide) (by decide) (by decide) (by decide), az_up_kn (by omega)]
/-- the class's fault -/
theorem FLT_C (h : Inv S loc D F) (hW : cz_W G S) (h0 : S 0 0 = 1) (h1 : 0 ≤ s) (h2 : s < 12) (c : S 7 s = 1) (m : S 18 s = 1) (hp : 0 ≤ p ∧ p < S 38 0) (hp1 : S 39 p = s) (hp2 : S 40 p = S 28 s + 1) : az_ex az_T (n + 5) 64 [.ref (G.ad 17), .ref (cz_as G s 0), .int (Int32.ofInt (S 41 p))] (cz_H G (sq_ff (az_up S 19 s (S 19 s - 1)) s) f, z) none (cz_H G (sq_fails (sq_ff (az_up S 19 s (S 19 s - 1)) s) s (S 41 p)) f, z) := by
  have g2 := h.a.g2
  have g33 := h.a.g33
  have la := h.l.la s h1 h2 c
  have ru := h.l.ru s h1 h2 c
  obtain ⟨⟨f1, f2⟩, f3, f4, w23, w20, w108, w9, w91, w92, rm⟩ := (h.wk s h1 h2 c m).2
  have lot := h.lot f1.1 f1.2 (by omega)
  have f2' := iv_second h.m s h1 h2 (h.l.s7 s h1 h2)
  have pp := h.p.pl
  have tb := (pp.2 p hp.1 (by have := pp.1; omega)).2.2
  have r16 := ru.1 (S 41 p) (by omega) (by omega)
  have as0 := h.p.as
  have hc : S 102 0 ≤ 39 := by
    have p40 := pp.1
    have q := h.p.ps p hp.1 hp.2
    have w := h.p.pb p hp.1 (by omega)
    rw [hp1, hp2] at q
    have e := h.p.pc
    have e2 : sp_sum (S 42) 40 = sp_sum (fun j => if j = p then 1 else S 42 j) 40 - 1 + S 42 p := by
      rw [sm_up (g := fun j => if j = p then 1 else S 42 j) (h := S 42) p 40 hp.1 (by omega) (fun j _ _ n => by show _ = if j = p then _ else _; rw [if_neg n])]
      show _ - (if p = p then (1 : Int) else _) + _ = _
      rw [if_pos rfl]
    have e3 := (sp_sum_b (g := fun j => if j = p then 1 else S 42 j) (B := 1) 40 (fun i a b => by
      show 0 ≤ (if i = p then (1 : Int) else S 42 i) ∧ (if i = p then (1 : Int) else S 42 i) ≤ 1
      split
      · omega
      · exact h.p.pb i a (by omega))).2
    omega
  have st := h.cst2 h0
  have hs : cz_S G s := hW.2.2.1 s h1 h2 c
  have K : ∀ (k : Nat) (i : Int), k ≠ 19 ∧ k ≠ 28 ∧ k ≠ 102 ∧ k ≠ 32 → sq_ff (az_up S 19 s (S 19 s - 1)) s k i = S k i := fun k i q => by
    unfold sq_ff sp_e0
    rw [az_up_kn q.2.2.2, az_up_kn q.2.2.1, az_up_kn q.2.1, az_up_kn q.1]
  generalize sq_ff (az_up S 19 s (S 19 s - 1)) s = E at K
  refine cm_cfail hs (S 41 p) (by omega) (cz_W_cg hW (fun b => K 3 b (by decide)) (fun b => K 7 b (by decide)) (K 33 _ (by decide))) (by rw [K 8 _ (by decide)]; exact la.1) (by rw [K 16 _ (by decide)]; exact r16) (by rw [K 43 _ (by decide)]; omega) (by rw [K 2 _ (by decide)]; exact g2) (by rw [K 17 _ (by decide)]; exact ru.2) (by rw [K 21 _ (by decide), K 33 _ (by decide)]; exact f1) (by rw [K 22 _ (by decide), K 33 _ (by decide)]; rcases f2' with q | q <;> omega) (by rw [K 21 _ (by decide), K 34 _ (by decide)]; have := lot.2.1; omega) (fun q => ?_) (iw_st_cg st (fun k i q => K k i (by omega)))
  rw [K 22 _ (by decide)] at q
  have y := f2'.resolve_left q
  have lot2 := h.lot y.1.1 y.1.2 (by omega)
  rw [K 22 _ (by decide), K 34 _ (by decide)]
  have := lot2.2.1
  omega
theorem FLT_Ce (m19 : S 19 s = 1) {k : Nat} {i : Int} (hv : cz_ow k i ≠ 0) : su_fl S s p t k i = sq_fails (sq_ff (az_up S 19 s (S 19 s - 1)) s) s t k i := by
  obtain ⟨n7, n20, n23, n24, n25, n26, n42, n54⟩ := vis_n hv
  have T : ∀ (k : Nat) (i : Int), k ≠ 19 ∧ k ≠ 28 → sp_tt S s k i = S k i := fun k i q => sp_tt_k q.1 q.2
  have ef : sq_ff (az_up S 19 s (S 19 s - 1)) s = az_up (az_up (sp_tt S s) 102 0 (S 102 0 + 1)) 32 s (az_w (S 32 s + 1)) := by
    unfold sq_ff
    rw [az_up_kn (k := 19) (k1 := 102) (by decide), az_up_kn (k := 19) (k1 := 32) (by decide)]
    rfl
  have ev : su_V S s p = az_up (sq_ff (az_up S 19 s (S 19 s - 1)) s) 42 p 1 := by
    rw [ef]
    unfold su_V
    rw [az_up_cm (k1 := 42) (k2 := 102) (by decide), az_up_cm (k1 := 32) (k2 := 102) (by decide)]
  have e19 : sq_ff (az_up S 19 s (S 19 s - 1)) s 19 s = 0 := by
    rw [ef, az_up_kn (by decide), az_up_kn (by decide), sp_tt_19, if_pos rfl, m19]; rfl
  have ew : sp_way (sq_ff (az_up S 19 s (S 19 s - 1)) s) s t = sp_way S s t := sp_way_cg (fun i => by rw [ef, az_up_kn (by decide), az_up_kn (by decide), T 16 _ (by decide)]) (fun i => by rw [ef, az_up_kn (by decide), az_up_kn (by decide), T 8 _ (by decide)])
  unfold sq_fails su_fl
  rw [ew, ev]
  clear ev ef ew
  generalize sq_ff (az_up S 19 s (S 19 s - 1)) s = E at e19
  have ag : agP (fun k => k ≠ 42) (az_up E 42 p 1) E := agP.hi (fun _ _ _ => rfl) (fun q => q rfl)
  split
  · exact agP.qf0 ag k i n42
  · split
    · unfold sp_f1
      by_cases e18 : k = 18
      · subst e18
        simp (disch := decide) only [az_up_kn, az_up_at, sp_part_k]
      · rw [az_up_kn e18, az_up_kn n20, sp_part_k n23 n24 n25 n26, az_up_kn n42]
        by_cases e9 : k = 19
        · subst e9
          rw [az_up_at, az_up_kn (by decide)]
          split
          · rename_i e; rw [e]; exact e19
          · rfl
        · rw [az_up_kn e9, az_up_kn e18]
    · unfold sp_stops
      rw [sp_stF_up (by decide) (by decide) (by decide) (by decide) (by decide) (by decide) (by decide) (by decide), az_up_kn n42]
end IvV
