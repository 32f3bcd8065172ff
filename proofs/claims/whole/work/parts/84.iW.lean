-- deps: 30.mK 31.mL 32.mM 34.mN 37.mQ 38.mR 39.mS 43.cls 44.sta 44.stb 44.stc 44.std 45.cA 46.cB 47.cC 48.cD 49.cE 50.cF 54.cI 55.cJ 58.cM 59.cN 43.raw 51.cG 53.cH 56.cK 57.cL 52.cG2 60.cO 61.cP 62.cQ 64.iA 65.iB 66.iC 67.iD 68.iE 69.iF 70.iG 72.iI 75.iL 76.iM 77.iN 79.iR 80.iS 81.iT 82.iU 83.iV 34.mN2 34.mN3 35.mO 36.mP 33.mM2
/-! ===== a stage goes ===== -/
section IvW
variable {n r : Nat} {G : cz_G} {S U Y V C : az_M} {loc loc' : Int → Int} {D D' F : Nat} {s p t l : Int} {f : Nat → az_C} {z : Nat × Nat}
/-- what a pass leaves alone -/
def su_fr (S S' : az_M) : Prop := S' 0 0 = S 0 0 ∧ S' 2 0 = S 2 0 ∧ (∀ i, S' 3 i = S 3 i) ∧ (∀ i, S' 7 i = S 7 i)
theorem su_fr_rfl : su_fr S S := ⟨rfl, rfl, fun _ => rfl, fun _ => rfl⟩
theorem su_fr_tr (h : su_fr S U) (h' : su_fr U V) : su_fr S V := ⟨h'.1.trans h.1, h'.2.1.trans h.2.1, fun i => (h'.2.2.1 i).trans (h.2.2.1 i), fun i => (h'.2.2.2 i).trans (h.2.2.2 i)⟩
theorem sp_worked_fr {k : Nat} {i : Int} (w23 : S 23 s = 0) (h : k = 0 ∨ k = 2 ∨ k = 3 ∨ k = 7 ∨ k = 28 ∨ k = 33) : sp_worked S s k i = S k i := by
  unfold sp_worked
  split
  · unfold sp_fin
    rw [sp_part_k (by omega) (by omega) (by omega) (by omega), az_up_kn (by omega), sp_clean_k (by omega) (by omega)]
  · split
    · unfold sp_fin
      rw [sp_part_k (by omega) (by omega) (by omega) (by omega), az_up_kn (by omega), sp_temper_k (by omega) (by omega) (by omega)]
    · split
      · exact (sp_roll_W w23).1 k i (by omega) (by omega) (by omega) (by omega) (by omega)
      · split
        · unfold sp_fin
          rw [sp_part_k (by omega) (by omega) (by omega) (by omega), az_up_kn (by omega)]
        · split
          · unfold sp_fin
            rw [sp_part_k (by omega) (by omega) (by omega) (by omega), az_up_kn (by omega), sp_blend_k (by omega) (by omega) (by omega) (by omega)]
          · rw [az_up_kn (by omega), az_up_kn (by omega), sp_pack_k (by omega) (by omega) (by omega)]
theorem su_wk_fr {k : Nat} {i : Int} (w23 : S 23 s = 0) (h : k = 0 ∨ k = 2 ∨ k = 3 ∨ k = 7 ∨ k = 28 ∨ k = 33) : su_wk S s k i = sp_tt S s k i := by
  rw [su_wk_lo (by omega)]
  unfold sp_we
  rw [az_up_kn (by omega), az_up_kn (by omega), sp_worked_fr (by rw [sp_tt_k (by decide) (by decide)]; exact w23) h]
theorem sp_stF_fr {k : Nat} {i : Int} (h : k = 0 ∨ k = 2 ∨ k = 3 ∨ k = 7 ∨ k = 28 ∨ k = 33) : ∀ (m : Nat) (j : Int) (S : az_M), sp_stF m j S k i = S k i
  | 0, _, _ => rfl
  | m + 1, j, S => by
    show sp_stF m (j + 1) (sp_st1 S j) k i = S k i
    rw [sp_stF_fr h m (j + 1)]
    unfold sp_st1
    split
    · rfl
    · rw [az_up_kn (by omega), az_up_kn (by omega)]
      split
      · exact sp_gb_k (by omega) (by omega) (by omega) (by omega)
      · rfl
theorem su_fl_fr {k : Nat} {i : Int} (h : k = 0 ∨ k = 2 ∨ k = 3 ∨ k = 7 ∨ k = 28 ∨ k = 33) : su_fl S s p t k i = sp_tt S s k i := by
  have e : su_V S s p k i = sp_tt S s k i := by
    unfold su_V
    rw [az_up_kn (by omega), az_up_kn (by omega), az_up_kn (by omega)]
  unfold su_fl
  split
  · unfold sq_f0
    rw [az_up_kn (by omega), az_up_kn (by omega), sq_clear_k (by omega) (by omega) (by omega) (by omega), sq_sets_k (by omega) (by omega) (by omega) (by omega) (by omega) (by omega) (by omega), sq_sets_k (by omega) (by omega) (by omega) (by omega) (by omega) (by omega) (by omega), e]
  · split
    · unfold sp_f1
      rw [az_up_kn (by omega), az_up_kn (by omega), sp_part_k (by omega) (by omega) (by omega) (by omega), e]
    · unfold sp_stops
      rw [sp_stF_fr h, e]
/-- one stage's step of the first pass -/
theorem GO (h : Inv S loc D F) (h0 : S 0 0 = 1) (h1 : 0 ≤ s) (h2 : s < 12) (c : S 7 s = 1) (hb : S 28 s < S 2 0) : ∃ S' loc' D', Inv S' loc' D' F ∧ su_fr S S' ∧ (∀ t, t ≠ s → S' 28 t = S 28 t) ∧ (∀ n r f z, az_ex az_T (n + 6) 171 [.ref r, .int (Int32.ofInt s)] (az_RH r S f, z) none (az_RH r S' f, z)) ∧ (∀ G f z, cz_W G S → cz_W G S' ∧ ((∀ n, az_ex az_T (n + 1) 95 [.ref (cz_as G s 0)] (cz_H G S f, z) (some (.int (Int32.ofInt 0))) (cz_H G S' f, z)) ∨ ∃ S1, (∀ n, az_ex az_T (n + 1) 95 [.ref (cz_as G s 0)] (cz_H G S f, z) (some (.int (Int32.ofInt 1))) (cz_H G S1 f, z)) ∧ ∀ n, az_ex az_T (n + 6) 63 [.ref (G.ad 17), .ref (cz_as G s 0)] (cz_H G S1 f, z) none (cz_H G S' f, z))) := by
  have g2 := h.a.g2
  have g33 := h.a.g33
  have en := h.p.en s h1 h2
  have m18 := h.m18 s h1 h2
  have hs : ∀ G, cz_W G S → cz_S G s := fun G hW => hW.2.2.1 s h1 h2 c
  have md := h.m.md s h1 h2 c
  by_cases a : S 18 s = 1 ∨ S 18 s = 3
  · have r19 : 1 ≤ S 19 s ∧ S 19 s ≤ 30 := by
      rcases md with ⟨x, -⟩ | ⟨x, y, q⟩ | ⟨x, -⟩ | ⟨x, y, q⟩ | ⟨x, -⟩ <;> omega
    by_cases d : 0 < S 19 s - 1
    · refine ⟨az_up S 19 s (S 19 s - 1), loc, D, ?_, ⟨az_up_kn (by decide), az_up_kn (by decide), fun _ => az_up_kn (by decide), fun _ => az_up_kn (by decide)⟩, fun _ _ => az_up_kn (by decide), fun n r f z => ?_, fun G f z hW => ⟨cz_W_cg hW (fun _ => az_up_kn (by decide)) (fun _ => az_up_kn (by decide)) (az_up_kn (by decide)), Or.inl (fun n => cm_ebD (hs G hW) a d (by omega))⟩⟩
      · have q := h.mode h0 h1 h2 c (m := S 18 s) (t := S 19 s - 1) (by
          rcases md with ⟨x, -⟩ | ⟨x, y, q⟩ | ⟨x, -⟩ | ⟨x, y, q⟩ | ⟨x, -⟩
          · omega
          · exact Or.inr (Or.inl ⟨x, by omega, q⟩)
          · omega
          · exact Or.inr (Or.inr (Or.inr (Or.inl ⟨x, by omega, q⟩)))
          · omega)
        rw [az_up_id (S := S) (k := 18) rfl] at q
        exact q
      · have q := cm_goes (n := n) (r := r) (f := f) (z := z) (S := S) s 0 ⟨h1, h2⟩ m18 (by omega) (fun _ w => by omega)
        unfold sp_goes at q
        rw [if_pos a, if_pos d] at q
        exact q
    · have m19 : S 19 s = 1 := by omega
      by_cases m1 : S 18 s = 1
      · obtain ⟨p, hp⟩ := sp_pl_ex S s (S 28 s + 1) (by have := h.p.pl.1; omega)
        obtain ⟨⟨f1, f2⟩, f3, f4, w23, w20, w108, w9, w91, w92, rm⟩ := (h.wk s h1 h2 c m1).2
        have T : ∀ (k : Nat) (i : Int), k ≠ 19 ∧ k ≠ 28 → sp_tt S s k i = S k i := fun k i q => sp_tt_k q.1 q.2
        have hpl : sp_pl (sp_tt S s) s (sp_tt S s 28 s) p := by
          unfold sp_pl at hp ⊢
          rw [sp_tt_28 (by omega), if_pos rfl]
          simp (disch := decide) only [T]
          exact hp
        have hkd : iv_kind (sp_tt S s) s := by
          have q := h.kind h0 s h1 h2 c
          unfold iv_kind at q ⊢
          simp (disch := decide) only [T]
          exact q
        have lt : ∀ l, iv_lot S l → iv_lot (sp_tt S s) l := fun l q => by
          unfold iv_lot at q ⊢
          simp (disch := decide) only [T]
          exact q
        have h1t : iv_lot (sp_tt S s) (sp_tt S s 21 s) := by
          rw [T 21 _ (by decide)]
          exact lt _ (h.lot f1.1 f1.2 (by omega))
        have h2t : sp_tt S s 8 s = 4 → iv_lot (sp_tt S s) (sp_tt S s 22 s) ∧ sp_tt S s 21 s ≠ sp_tt S s 22 s ∧ sp_tt S s 34 (sp_tt S s 21 s) + sp_tt S s 34 (sp_tt S s 22 s) < 1073741824 := fun q => by
          rw [T 8 _ (by decide)] at q
          have w := f4 q
          rw [T 21 _ (by decide), T 22 _ (by decide), T 34 _ (by decide), T 34 _ (by decide)]
          exact ⟨lt _ (h.lot w.1.1 w.1.2 (by omega)), w.2.2, h.lot2 f1.1 f1.2 (by omega) w.1.1 w.1.2 (by omega) w.2.2⟩
        have hpn : iv_plans (az_up S 19 s (S 19 s - 1)) := by
          have q := h.p.pl
          unfold iv_plans at q ⊢
          simp (disch := decide) only [az_up_kn]
          exact q
        have hc40 : 0 ≤ S 102 0 ∧ S 102 0 ≤ 40 := by
          have := h.p.pc
          have := sp_sum_b (g := S 42) (B := 1) 40 (fun i a b => h.p.pb i a (by omega))
          omega
        -- the end of the working, both sides
        have key : ∃ S' loc' D', Inv S' loc' D' F ∧ (∀ k i, k = 0 ∨ k = 2 ∨ k = 3 ∨ k = 7 ∨ k = 28 ∨ k = 33 → S' k i = sp_tt S s k i) ∧ (∀ n r f z, az_ex az_T (n + 5) 165 [.ref r, .int (Int32.ofInt s)] (az_RH r (az_up S 19 s (S 19 s - 1)) f, z) none (az_RH r (sp_ends (az_up S 19 s (S 19 s - 1)) s p) f, z) ∧ az_RH r (sp_ends (az_up S 19 s (S 19 s - 1)) s p) f = az_RH r S' f) ∧ (∀ G n f z, cz_W G S → az_ex az_T (n + 6) 63 [.ref (G.ad 17), .ref (cz_as G s 0)] (cz_H G (az_up S 19 s (S 19 s - 1)) f, z) none (cz_H G S' f, z)) := by
          by_cases e : p = -1
          · have hn : ∀ q, 0 ≤ q → q < S 38 0 → ¬ (S 39 q = s ∧ S 40 q = S 28 s + 1) := by
              rcases hp with ⟨x, -⟩ | ⟨-, x⟩
              · omega
              · exact x
            obtain ⟨loc', D', iv⟩ := h.wkAll h0 h1 h2 c m1 m19 hb hn
            refine ⟨su_wk S s, loc', D', iv, fun k i q => su_wk_fr w23 q, fun n r f z => ⟨?_, ?_⟩, fun G n f z hW => ?_⟩
            · refine cm_ends s p ⟨h1, h2⟩ hpn (by rw [az_up_kn (by decide)]; omega) hpl (fun _ => ⟨⟨?_, hkd, h1t, h2t, ?_⟩, ?_⟩) (fun q => absurd e q)
              · show sp_tt S s 33 0 ≤ 1500
                rw [T 33 _ (by decide)]; omega
              · show sp_tt S s 23 s = 0
                rw [T 23 _ (by decide)]; exact w23
              · have q := (iv.parts s h1 h2).1
                rw [su_wk_lo (by decide)] at q
                unfold sp_we at q
                rw [az_up_kn (by decide), az_up_kn (by decide)] at q
                exact q
            · refine az_RH_cg (fun k hk i => ?_)
              rw [su_wk_lo hk]
              unfold sp_ends
              rw [if_pos e]
              rfl
            · have q := cm_endWorking (n := n) (f := f) (z := z) (S := az_up S 19 s (S 19 s - 1)) (hs G hW) p (cz_W_cg hW (fun _ => az_up_kn (by decide)) (fun _ => az_up_kn (by decide)) (az_up_kn (by decide))) hpn hpl (by rw [az_up_kn (by decide)]; omega) (by rw [az_up_kn (by decide)]; omega) (fun _ K => cx_workUpon (n := n) (S := sp_tt S s) (hs G hW) (by rw [T 33 _ (by decide)]; exact hW.2.2.2.2.2) hkd h1t h2t) (fun q => absurd e q)
              have e2 : cz_H G (su_wk S s) f = cz_H G (sq_ends (az_up S 19 s (S 19 s - 1)) s p) f := cz_H_cg (fun k i hv => by
                unfold sq_ends
                rw [if_pos e]
                exact wk_vis h h0 h1 h2 c m1 m19 hv)
              rw [e2]
              exact q
          · have hpp : (0 ≤ p ∧ p < S 38 0) ∧ (S 39 p = s ∧ S 40 p = S 28 s + 1) := by
              rcases hp with ⟨x, y, -⟩ | ⟨x, -⟩
              · exact ⟨x, y⟩
              · exact absurd x e
            have e41 : az_up S 19 s (S 19 s - 1) 41 p = S 41 p := az_up_kn (by decide)
            obtain ⟨loc', D', iv⟩ := h.flt h0 h1 h2 c m1 m19 hb hpp.1 hpp.2.1 hpp.2.2 rfl
            refine ⟨su_fl S s p (S 41 p), loc', D', iv, fun k i q => su_fl_fr q, fun n r f z => ⟨?_, ?_⟩, fun G n f z hW => ?_⟩
            · refine cm_ends s p ⟨h1, h2⟩ hpn (by rw [az_up_kn (by decide)]; omega) hpl (fun q => absurd q e) (fun _ K => ?_)
              rw [e41]
              exact az_mc_eq (FLT_R h h0 h1 h2 c m1 hpp.1)
            · rw [← FLT_Re h h0 h1 h2 c m1]
              unfold sp_ends
              rw [if_neg e, e41]
              rfl
            · have q := cm_endWorking (n := n) (f := f) (z := z) (S := az_up S 19 s (S 19 s - 1)) (hs G hW) p (cz_W_cg hW (fun _ => az_up_kn (by decide)) (fun _ => az_up_kn (by decide)) (az_up_kn (by decide))) hpn hpl (by rw [az_up_kn (by decide)]; omega) (by rw [az_up_kn (by decide)]; omega) (fun q => absurd q e) (fun _ K => by
                rw [e41]
                exact az_mc_eq (FLT_C h hW h0 h1 h2 c m1 hpp.1 hpp.2.1 hpp.2.2))
              have e2 : cz_H G (su_fl S s p (S 41 p)) f = cz_H G (sq_ends (az_up S 19 s (S 19 s - 1)) s p) f := cz_H_cg (fun k i hv => by
                unfold sq_ends
                rw [if_neg e, e41]
                exact FLT_Ce m19 hv)
              rw [e2]
              exact q
        obtain ⟨S', loc', D', iv, fr, kr, kc⟩ := key
        have fr2 : ∀ k i, k = 0 ∨ k = 2 ∨ k = 3 ∨ k = 7 ∨ k = 33 → S' k i = S k i := fun k i q => by rw [fr k i (by omega), T k i (by omega)]
        refine ⟨S', loc', D', iv, ⟨fr2 0 _ (by decide), fr2 2 _ (by decide), fun i => fr2 3 i (by decide), fun i => fr2 7 i (by decide)⟩, fun t ht => ?_, fun n r f z => ?_, fun G f z hW => ⟨cz_W_cg hW (fun b => fr2 3 b (by decide)) (fun b => fr2 7 b (by decide)) (fr2 33 _ (by decide)), Or.inr ⟨_, fun n => cm_ebW (hs G hW) m1 (by omega) (by omega), fun n => kc G n f z hW⟩⟩⟩
        · rw [fr 28 t (by decide), sp_tt_28 (by omega), if_neg ht]
        · obtain ⟨k1, k2⟩ := kr n r f z
          have q := cm_goes (n := n) (r := r) (f := f) (z := z) (S := S) s p ⟨h1, h2⟩ m18 (by omega) (fun _ _ => k1)
          unfold sp_goes at q
          rw [if_pos a, if_neg d, if_pos m1, k2] at q
          exact q
      · have m3 : S 18 s = 3 := by omega
        refine ⟨az_up (az_up S 19 s (S 19 s - 1)) 18 s 0, loc, D, ?_, ⟨?_, ?_, fun _ => ?_, fun _ => ?_⟩, fun _ _ => ?_, fun n r f z => ?_, fun G f z hW => ⟨cz_W_cg hW (fun _ => ?_) (fun _ => ?_) ?_, Or.inl (fun n => cm_ebM (hs G hW) m3 (by omega) (by omega))⟩⟩
        · rw [az_up_cm (by decide)]
          refine h.mode h0 h1 h2 c (Or.inl ⟨rfl, by omega, ?_⟩)
          rcases md with ⟨x, -⟩ | ⟨x, y, q⟩ | ⟨x, -⟩ | ⟨x, y, q⟩ | ⟨x, -⟩
          · omega
          · omega
          · omega
          · exact q
          · omega
        · rw [az_up_kn (by decide), az_up_kn (by decide)]
        · rw [az_up_kn (by decide), az_up_kn (by decide)]
        · rw [az_up_kn (by decide), az_up_kn (by decide)]
        · rw [az_up_kn (by decide), az_up_kn (by decide)]
        · rw [az_up_kn (by decide), az_up_kn (by decide)]
        · have q := cm_goes (n := n) (r := r) (f := f) (z := z) (S := S) s 0 ⟨h1, h2⟩ m18 (by omega) (fun w => absurd w m1)
          unfold sp_goes at q
          rw [if_pos a, if_neg d, if_neg m1] at q
          exact q
        · rw [az_up_kn (by decide), az_up_kn (by decide)]
        · rw [az_up_kn (by decide), az_up_kn (by decide)]
        · rw [az_up_kn (by decide), az_up_kn (by decide)]
  · refine ⟨S, loc, D, h, su_fr_rfl, fun _ _ => rfl, fun n r f z => ?_, fun G f z hW => ⟨hW, Or.inl (fun n => cm_ebN (hs G hW) m18 (fun q => a (Or.inl q)) (fun q => a (Or.inr q)))⟩⟩
    have q19 : 0 ≤ S 19 s ∧ S 19 s ≤ 100 := by
      rcases md with ⟨x, y, -⟩ | ⟨x, y, q⟩ | ⟨x, y, -⟩ | ⟨x, y, q⟩ | ⟨x, y, -⟩ <;> omega
    have q := cm_goes (n := n) (r := r) (f := f) (z := z) (S := S) s 0 ⟨h1, h2⟩ m18 q19 (fun w => absurd (Or.inl w) a)
    unfold sp_goes at q
    rw [if_neg a] at q
    exact q
end IvW
