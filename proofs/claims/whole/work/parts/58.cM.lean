-- deps: 43.cls 43.raw 44.sta 44.stb 44.stc 44.std 45.cA 46.cB 47.cC 48.cD 51.cG 53.cH 54.cI 56.cK 57.cL
section CmCM
variable {n : Nat} {G : cz_G} {S : az_M} {f : Nat → az_C} {z : Nat × Nat}
/-- a stage that was not told -/
def iv_s0 (S : az_M) (s : Int) : Prop := (S 11 s = 0 ∧ S 13 s = 0 ∧ S 17 s = 5 ∧ S 18 s = 0 ∧ S 19 s = 0 ∧ S 28 s = 0 ∧ S 32 s = 0 ∧ S 29 s = 0 ∧ S 30 s = 0 ∧ S 31 s = 0) ∧ (S 21 s = -1 ∧ S 22 s = -1 ∧ S 108 s = 0) ∧ (∀ i, 2 * s ≤ i → i < 2 * s + 2 → S 12 i = 0) ∧ (∀ i, 3 * s ≤ i → i < 3 * s + 3 → S 14 i = 0 ∧ S 15 i = 0 ∧ S 16 i = 0 ∧ S 109 i = 0) ∧ (∀ i, 10 * s ≤ i → i < 10 * s + 10 → S 27 i = 0)
theorem cz_gr0 {k m : Nat} {o : Int} (h : ∀ i, o ≤ i → i < o + m → S k i = 0) : cz_gr S k m o = fun _ => 0 := by
  funext i
  unfold cz_gr
  split
  · rw [h _ (by omega) (by omega)]
    rfl
  · rfl
theorem cz_newS {s k x m : Int} (hs : 0 ≤ s ∧ s < 12) (hV : cz_V G) (ht : ¬ G.ts s = true) (hz : ∀ a, z.1 ≤ a → G.cd a = 0) (h0 : iv_s0 S s) (g : Nat → az_C) (hg1 : g (G.ad 4) = az_ra 1 12 (az_ui (cz_so G) s (some z.1))) (hgo : g z.1 = az_ob 8 [.int (Int32.ofInt s), .int (Int32.ofInt k), .int (Int32.ofInt x), .int (Int32.ofInt m), .ref (z.1 + 1), .int 0, .ref (z.1 + 2), .ref (z.1 + 3), .int 0, .ref (z.1 + 4), .int (Int32.ofInt 5), .int (Int32.ofInt 0), .int 0, .int 0, .int 0, .int 0, .int 0, .int 0, .ref (z.1 + 5), .ref (z.1 + 7)]) (hi1 : g (z.1 + 1) = az_ia 0 2 (fun _ => 0)) (hi2 : g (z.1 + 2) = az_ia 0 3 (fun _ => 0)) (hi3 : g (z.1 + 3) = az_ia 0 3 (fun _ => 0)) (hi4 : g (z.1 + 4) = az_ia 0 3 (fun _ => 0)) (hi5 : g (z.1 + 5) = az_ob 4 [.int (Int32.ofInt (-1)), .int (Int32.ofInt (-1)), .int 0, .ref (z.1 + 6)]) (hi6 : g (z.1 + 6) = az_ia 0 3 (fun _ => 0)) (hi7 : g (z.1 + 7) = az_ia 0 10 (fun _ => 0)) (hg : ∀ a, a ≠ G.ad 4 → (a < z.1 ∨ z.1 + 8 ≤ a) → g a = cz_H G S f a) : g = cz_H (cz_ext G z.1 8 (64 + 8 * s.toNat) 1 G.tb (cz_tb G.ts s) hz (by decide) (by omega)) (sp_stageU S s k x m) f := by
  generalize hG : cz_ext G z.1 8 (64 + 8 * s.toNat) 1 G.tb (cz_tb G.ts s) hz (by decide) (by omega) = G'
  have hn : ∀ c, cz_isn 8 (64 + 8 * s.toNat) 1 c → ∀ a, G.cd a ≠ c := fun c hc a => by
    unfold cz_isn at hc
    have q := hV.2.1 s hs.1 hs.2 ht (c - (64 + 8 * s.toNat)) (by omega) a
    rw [show 64 + 8 * s.toNat + (c - (64 + 8 * s.toNat)) = c by omega] at q
    exact q
  have had : ∀ c, G'.ad c = cz_ead G z.1 8 (64 + 8 * s.toNat) 1 c := fun c => by rw [← hG]; rfl
  have hcd : ∀ a, G'.cd a = cz_ecd G z.1 8 (64 + 8 * s.toNat) 1 a := fun a => by rw [← hG]; rfl
  have hado : ∀ c, ¬ cz_isn 8 (64 + 8 * s.toNat) 1 c → G'.ad c = G.ad c := fun c hc => by
    rw [had]
    exact if_neg hc
  have haj : ∀ j, j < 8 → G'.ad (64 + 8 * s.toNat + j) = z.1 + j := fun j hj => by
    rw [had]
    unfold cz_ead
    rw [if_pos (by omega), Nat.add_sub_cancel_left, Nat.div_one]
  have haS : ∀ j, j < 8 → cz_as G' s j = z.1 + j := haj
  have hbo : cz_bo G' = cz_bo G := by
    funext i
    unfold cz_bo cz_ab
    have e : G'.tb = G.tb := by rw [← hG]; rfl
    rw [e]
    split
    · rename_i q
      have := hV.2.2.1 i q
      rw [hado _ (by unfold cz_isn; omega)]
    · rfl
  have hso : cz_so G' = az_ui (cz_so G) s (some z.1) := by
    funext i
    unfold cz_so cz_as az_ui
    dsimp only
    have e : G'.ts = cz_tb G.ts s := by rw [← hG]; rfl
    rw [e]
    by_cases c : i = s
    · rw [c, cz_tb_y, if_pos rfl, if_pos rfl, haj 0 (by decide)]
      rfl
    · rw [cz_tb_n c, if_neg c]
      split
      · rename_i q
        have := hV.2.2.2 i q
        rw [hado _ (by unfold cz_isn; omega)]
      · rfl
  have hlt : ∀ c, 1 ≤ c → c < 23 → G.ad c < z.1 := fun c h1 h2 => by
    apply Classical.byContradiction
    intro q
    have := hz (G.ad c) (by omega)
    rw [(G.hF c h1 h2).1] at this
    omega
  have hcell : ∀ c, c ≠ 4 → ¬ cz_isn 8 (64 + 8 * s.toNat) 1 c → c ≠ 0 → cz_c G' (sp_stageU S s k x m) c = cz_c G S c := fun c h3 hc h0 => by
    have e1 : cz_c G' (sp_stageU S s k x m) c = cz_c G' S c := cz_c_cg (fun k1 i q => by
      unfold sp_stageU
      by_cases e : (k1 = 7 ∨ k1 = 8 ∨ k1 = 9 ∨ k1 = 10) ∧ i = s
      · exfalso
        obtain ⟨e1, e2⟩ := e
        rw [e2] at q
        rcases e1 with e1 | e1 | e1 | e1 <;> rw [e1] at q
        · exact h0 q.symm
        all_goals
          have q : 64 + 8 * s.toNat = c := q
          exact hc (by unfold cz_isn; omega)
      · unfold az_up
        grind)
    rw [e1]
    refine cz_c_Gx c (by rw [← hG]; rfl) (fun d hd => hado d (by unfold cz_isn; omega)) (fun h1 h2 => hado _ (by unfold cz_isn; omega)) (fun h1 j hj => hado _ (by unfold cz_isn at hc ⊢; omega)) (fun _ => hbo) (fun q => absurd q h3)
  have hU : ∀ k1 i, k1 ≠ 7 → k1 ≠ 8 → k1 ≠ 9 → k1 ≠ 10 → sp_stageU S s k x m k1 i = S k1 i := fun k1 i a b c d => by
    unfold sp_stageU
    rw [az_up_kn d, az_up_kn c, az_up_kn b, az_up_kn a]
  have hU8 : sp_stageU S s k x m 8 s = k := by
    unfold sp_stageU
    rw [az_up_kn (by decide), az_up_kn (by decide), az_up_ee]
  have hU9 : sp_stageU S s k x m 9 s = x := by
    unfold sp_stageU
    rw [az_up_kn (by decide), az_up_ee]
  have hU10 : sp_stageU S s k x m 10 s = m := by
    unfold sp_stageU
    rw [az_up_ee]
  obtain ⟨⟨a1, a2, a3, a4, a5, a6, a7, a8, a9, a10⟩, ⟨b1, b2, b3⟩, c1, c2, c3⟩ := h0
  funext a
  unfold cz_H
  rw [hcd]
  by_cases e3 : a = G.ad 4
  · have q := hlt 4 (by decide) (by decide)
    have ec : cz_ecd G z.1 8 (64 + 8 * s.toNat) 1 a = 4 := by
      unfold cz_ecd
      rw [if_neg (by omega), e3, (G.hF 4 (by decide) (by decide)).1]
    rw [ec, if_neg (by decide), e3, hg1, ← hso]
    rfl
  · by_cases e1 : z.1 ≤ a ∧ a < z.1 + 8
    · have ec : ∀ j, a = z.1 + j → cz_ecd G z.1 8 (64 + 8 * s.toNat) 1 a = 64 + 8 * s.toNat + j := fun j hj => by
        unfold cz_ecd
        rw [if_pos e1]
        omega
      rcases (show a = z.1 + 0 ∨ a = z.1 + 1 ∨ a = z.1 + 2 ∨ a = z.1 + 3 ∨ a = z.1 + 4 ∨ a = z.1 + 5 ∨ a = z.1 + 6 ∨ a = z.1 + 7 by omega) with e | e | e | e | e | e | e | e
      · rw [ec 0 e, if_neg (by omega), e, Nat.add_zero, hgo, cz_c_S hs (by decide)]
        show _ = az_ob 8 (cz_fS G' (sp_stageU S s k x m) s)
        unfold cz_fS
        rw [haS 1 (by decide), haS 2 (by decide), haS 3 (by decide), haS 4 (by decide), haS 5 (by decide), haS 7 (by decide), hU8, hU9, hU10, hU 11 s (by decide) (by decide) (by decide) (by decide), hU 13 s (by decide) (by decide) (by decide) (by decide), hU 17 s (by decide) (by decide) (by decide) (by decide), hU 18 s (by decide) (by decide) (by decide) (by decide), hU 19 s (by decide) (by decide) (by decide) (by decide), hU 28 s (by decide) (by decide) (by decide) (by decide), hU 32 s (by decide) (by decide) (by decide) (by decide), hU 29 s (by decide) (by decide) (by decide) (by decide), hU 30 s (by decide) (by decide) (by decide) (by decide), hU 31 s (by decide) (by decide) (by decide) (by decide), a1, a2, a3, a4, a5, a6, a7, a8, a9, a10]
        rfl
      · rw [ec 1 e, if_neg (by omega), e, hi1, cz_c_S hs (by decide)]
        show _ = az_ia 0 2 (cz_gr (sp_stageU S s k x m) 12 2 (2 * s))
        rw [cz_gr0 (fun i i1 i2 => by rw [hU 12 i (by decide) (by decide) (by decide) (by decide)]; exact c1 i i1 i2)]
      · rw [ec 2 e, if_neg (by omega), e, hi2, cz_c_S hs (by decide)]
        show _ = az_ia 0 3 (cz_gr (sp_stageU S s k x m) 14 3 (3 * s))
        rw [cz_gr0 (fun i i1 i2 => by rw [hU 14 i (by decide) (by decide) (by decide) (by decide)]; exact (c2 i i1 i2).1)]
      · rw [ec 3 e, if_neg (by omega), e, hi3, cz_c_S hs (by decide)]
        show _ = az_ia 0 3 (cz_gr (sp_stageU S s k x m) 15 3 (3 * s))
        rw [cz_gr0 (fun i i1 i2 => by rw [hU 15 i (by decide) (by decide) (by decide) (by decide)]; exact (c2 i i1 i2).2.1)]
      · rw [ec 4 e, if_neg (by omega), e, hi4, cz_c_S hs (by decide)]
        show _ = az_ia 0 3 (cz_gr (sp_stageU S s k x m) 16 3 (3 * s))
        rw [cz_gr0 (fun i i1 i2 => by rw [hU 16 i (by decide) (by decide) (by decide) (by decide)]; exact (c2 i i1 i2).2.2.1)]
      · rw [ec 5 e, if_neg (by omega), e, hi5, cz_c_S hs (by decide)]
        show _ = az_ob 4 (cz_fL G' (sp_stageU S s k x m) s)
        unfold cz_fL
        rw [haS 6 (by decide), hU 21 s (by decide) (by decide) (by decide) (by decide), hU 22 s (by decide) (by decide) (by decide) (by decide), hU 108 s (by decide) (by decide) (by decide) (by decide), b1, b2, b3]
        rfl
      · rw [ec 6 e, if_neg (by omega), e, hi6, cz_c_S hs (by decide)]
        show _ = az_ia 0 3 (cz_gr (sp_stageU S s k x m) 109 3 (3 * s))
        rw [cz_gr0 (fun i i1 i2 => by rw [hU 109 i (by decide) (by decide) (by decide) (by decide)]; exact (c2 i i1 i2).2.2.2)]
      · rw [ec 7 e, if_neg (by omega), e, hi7, cz_c_S hs (by decide)]
        show _ = az_ia 0 10 (cz_gr (sp_stageU S s k x m) 27 10 (10 * s))
        rw [cz_gr0 (fun i i1 i2 => by rw [hU 27 i (by decide) (by decide) (by decide) (by decide)]; exact c3 i i1 i2)]
    · have ec : cz_ecd G z.1 8 (64 + 8 * s.toNat) 1 a = G.cd a := by
        unfold cz_ecd
        rw [if_neg e1]
      rw [ec, hg a e3 (by omega)]
      unfold cz_H
      by_cases c0 : G.cd a = 0
      · rw [if_pos c0, if_pos c0]
      · rw [if_neg c0, if_neg c0]
        refine (hcell _ (fun q => e3 ((G.hF 4 (by decide) (by decide)).2 a q)) (fun q => hn _ q a rfl) c0).symm
theorem cz_newS_W {s k x m : Int} (hs : 0 ≤ s ∧ s < 12) (hV : cz_V G) (ht : ¬ G.ts s = true) (hz : cz_Fr G z) (hW : cz_W G S) : (cz_W (cz_ext G z.1 8 (64 + 8 * s.toNat) 1 G.tb (cz_tb G.ts s) hz.1 (by decide) (by omega)) (sp_stageU S s k x m) ∧ cz_V (cz_ext G z.1 8 (64 + 8 * s.toNat) 1 G.tb (cz_tb G.ts s) hz.1 (by decide) (by omega)) ∧ cz_Fr (cz_ext G z.1 8 (64 + 8 * s.toNat) 1 G.tb (cz_tb G.ts s) hz.1 (by decide) (by omega)) (z.1 + 8, z.2 + 48)) := by
  have hn : ∀ c, cz_isn 8 (64 + 8 * s.toNat) 1 c → ∀ a, G.cd a ≠ c := fun c hc a => by
    unfold cz_isn at hc
    have q := hV.2.1 s hs.1 hs.2 ht (c - (64 + 8 * s.toNat)) (by omega) a
    rw [show 64 + 8 * s.toNat + (c - (64 + 8 * s.toNat)) = c by omega] at q
    exact q
  have ko : ∀ c, c ≠ 0 → ¬ cz_isn 8 (64 + 8 * s.toNat) 1 c → cz_ok G c → cz_ok (cz_ext G z.1 8 (64 + 8 * s.toNat) 1 G.tb (cz_tb G.ts s) hz.1 (by decide) (by omega)) c := fun c h0 h1 h2 => cz_e_o hz.1 (by decide) h0 h1 h2.1 h2.2
  have kn : ∀ c, cz_isn 8 (64 + 8 * s.toNat) 1 c → cz_ok (cz_ext G z.1 8 (64 + 8 * s.toNat) 1 G.tb (cz_tb G.ts s) hz.1 (by decide) (by omega)) c := fun c h1 => cz_e_n (by decide) hn h1
  have hU : ∀ k1 i, k1 ≠ 7 → k1 ≠ 8 → k1 ≠ 9 → k1 ≠ 10 → sp_stageU S s k x m k1 i = S k1 i := fun k1 i a b c d => by
    unfold sp_stageU
    rw [az_up_kn d, az_up_kn c, az_up_kn b, az_up_kn a]
  have hU7 : ∀ i, sp_stageU S s k x m 7 i = if i = s then 1 else S 7 i := fun i => by
    unfold sp_stageU
    rw [az_up_kn (by decide), az_up_kn (by decide), az_up_kn (by decide), az_up_at]
  obtain ⟨w1, w2, w3, w4, w5⟩ := hW
  refine ⟨⟨fun b1 b2 b3 b4 => ?_, fun b1 b2 b3 b4 => ?_, fun t s1 s2 s3 => ?_, fun t s1 s2 s3 => ?_, ?_⟩, ⟨fun b1 b2 b3 b4 a => ?_, fun t s1 s2 s3 j hj a => ?_, fun i hi => ?_, fun i hi => ?_⟩, ⟨fun a ha => ?_, hz.2⟩⟩
  · rw [hU 3 _ (by decide) (by decide) (by decide) (by decide)] at b4
    obtain ⟨q1, q2, q3, q4⟩ := w1 b1 b2 b3 b4
    exact ⟨q1, q2, ko _ (by omega) (by unfold cz_isn; omega) q3, ko _ (by omega) (by unfold cz_isn; omega) q4⟩
  · rw [hU 3 _ (by decide) (by decide) (by decide) (by decide)] at b4
    exact w2 b1 b2 b3 b4
  · by_cases e : t = s
    · rw [e]
      exact ⟨hs, cz_tb_y, fun j hj => kn _ (by unfold cz_isn; omega)⟩
    · rw [hU7, if_neg e] at s3
      obtain ⟨q1, q2, q3⟩ := w3 t s1 s2 s3
      exact ⟨q1, by show cz_tb G.ts s t = true; rw [cz_tb_n e]; exact q2, fun j hj => ko _ (by omega) (by unfold cz_isn; omega) (q3 j hj)⟩
  · by_cases e : t = s
    · rw [e, hU7, if_pos rfl] at s3
      omega
    · rw [hU7, if_neg e] at s3
      show ¬ cz_tb G.ts s t = true
      rw [cz_tb_n e]
      exact w4 t s1 s2 s3
  · rw [hU 33 _ (by decide) (by decide) (by decide) (by decide)]
    exact w5
  · have q := hV.1 b1 b2 b3 b4 a
    show cz_ecd G z.1 8 (64 + 8 * s.toNat) 1 a ≠ _ ∧ cz_ecd G z.1 8 (64 + 8 * s.toNat) 1 a ≠ _
    unfold cz_ecd
    split
    · omega
    · exact q
  · have s3 : ¬ cz_tb G.ts s t = true := s3
    have e : t ≠ s := fun q => s3 (by rw [q]; exact cz_tb_y)
    rw [cz_tb_n e] at s3
    have q := hV.2.1 t s1 s2 s3 j hj a
    show cz_ecd G z.1 8 (64 + 8 * s.toNat) 1 a ≠ _
    unfold cz_ecd
    split
    · omega
    · exact q
  · exact hV.2.2.1 i hi
  · have hi : cz_tb G.ts s i = true := hi
    by_cases e : i = s
    · rw [e]; exact hs
    · rw [cz_tb_n e] at hi
      exact hV.2.2.2 i hi
  · show cz_ecd G z.1 8 (64 + 8 * s.toNat) 1 a = 0
    have ha : z.1 + 8 ≤ a := ha
    unfold cz_ecd
    rw [if_neg (by omega), hz.1 a (by omega)]
set_option maxRecDepth 20000 in
set_option maxHeartbeats 1000000 in
/-- addBin, bin -/
theorem cm_addBinY (b x : Int) (hb : 0 ≤ b ∧ b < 16) (hx : 1 ≤ x ∧ x ≤ 20) (hV : cz_V G) (ht : ¬ G.tb b = true) (hz : cz_Fr G z) (h0 : S 4 b = 0 ∧ S 6 b = 0 ∧ ∀ i, 40 * b ≤ i → i < 40 * b + 21 → S 5 i = 0) : az_ex az_T (n + 2) 15 [.ref (G.ad 2), .int (Int32.ofInt b), .int (Int32.ofInt x)] (cz_H G S f, z) (some (.int (Int32.ofInt 1))) (cz_H (cz_ext G z.1 2 (32 + b.toNat) 16 (cz_tb G.tb b) G.ts hz.1 (by decide) (by omega)) (az_up S 3 b x) f, z.1 + 2, z.2 + 25) := by
  refine az_ex_eq (R := az_r15) rfl (Nat.le_of_ble_eq_true rfl) ?_
  show az_p15 _ _ _
  have c1 : 0 ≤ b := hb.1
  have c2 : ¬ 16 ≤ b := by omega
  have c2' : b < 16 := by omega
  have w1 : ∀ K, az_mc (az_ex az_T (n + 1)) 132 [.int (Int32.ofInt x), .int (Int32.ofInt 1), .int (Int32.ofInt 20)] (cz_H G S f, z) K = K _ _ := fun K => cx_within x 1 20 _ (by omega) (by omega) (by omega) (by omega) (by omega) (by omega)
  have hlt : ∀ c, 1 ≤ c → c < 23 → G.ad c < z.1 := fun c h1 h2 => by
    apply Classical.byContradiction
    intro q
    have := hz.1 (G.ad c) (by omega)
    rw [(G.hF c h1 h2).1] at this
    omega
  have h3 := hlt 3 (by decide) (by decide)
  have cI : ∀ K, az_mc (az_ex az_T (n + 1)) 0 [.ref z.1, .int (Int32.ofInt x)] (va_up (cz_H G S f) z.1 (az_ob 0 [.int 0, .null, .int 0, .int 0]), z.1 + 1, z.2 + 4) K = K _ _ := fun K => cx_iBin (va_up (cz_H G S f) z.1 (az_ob 0 [.int 0, .null, .int 0, .int 0]), z.1 + 1, z.2 + 4) z.1 x (by dsimp only; rw [va_eq]; rfl) (by dsimp only; omega)
  have aa : ∀ K, az_mwa (cz_H G S f (G.ad 3)) (az_ob 0 [.int (Int32.ofInt x), .ref (z.1 + 1), .int 0, .int 0]) b z.1 K = K (az_ra 0 16 (az_ui (cz_bo G) b (some z.1))) := fun K => by
    rw [show cz_H G S f (G.ad 3) = az_ra 0 16 (cz_bo G) from cz_H_at (by decide) (cz_okF 3 (by decide) (by decide))]
    exact propext ⟨fun z => z.2, fun z => ⟨⟨⟨by decide, rfl⟩, by omega⟩, z⟩⟩
  have c1' : ¬ b < 0 := by omega
  have fin := cz_newB (S := S) (f := f) (z := z) (x := x) hb hV ht hz.1 h0 (va_up (va_up (va_up (va_up (cz_H G S f) z.1 (az_ob 0 [.int 0, .null, .int 0, .int 0])) (z.1 + 1) (az_ia 0 21 (fun _ => 0))) z.1 (az_ob 0 [.int (Int32.ofInt x), .ref (z.1 + 1), .int 0, .int 0])) (G.ad 3) (az_ra 0 16 (az_ui (cz_bo G) b (some z.1)))) va_eq (by rw [va_ne (by omega), va_eq]) (by rw [va_ne (by omega), va_ne (by omega), va_eq]) (fun a h1 h2 h3 => by rw [va_ne h1, va_ne h2, va_ne h3, va_ne h2])
  repeat (first | simp only [az_s15_0, az_s15_1, az_s15_4, az_s15_5, az_s15_6, az_s15_9, az_s15_10, az_s15_13, az_s15_14, az_s15_17, az_s15_18, az_s15_19n, az_s15_19, az_s15_22, az_s15_23, az_s15_24, az_s15_26, az_s15_29, az_s15_32, az_s15_33, az_s15_34, az_s15_35, az_s15_38, az_s15_42, az_s15_42r, az_s15_43, az_s15_44, az_s15_47, az_s15_48, az_s15_49, Int.reduceEq, Int.reduceLT, Int.reduceLE, Int.reduceAdd, Int.reduceMul, Int.reduceSub, Int.reduceNeg, Int.add_zero, Int.zero_add, ge_iff_le, gt_iff_lt, az_mi_s, az_ml_s, az_ma_r, az_ma_n, az_s1_ap, az_s2_ap, az_nl_i, az_nl_r, az_nl_0, az_nl_e, az_nl_l, az_arg_ap, az_arg_e, Value.category, Option.toList, List.cons_append, List.nil_append, az_cat, reduceIte, Nat.reduceAdd, Nat.reduceEqDiff, Nat.reduceLeDiff, Nat.reduceSub, Nat.reduceLT, true_and, and_true, false_and, and_false, not_true_eq_false, not_false_eq_true, implies_true, true_implies, false_implies, and_self, eq_self, if_true, if_false, true_or, or_true, or_false, false_or, Nat.zero_add, Nat.add_zero, Nat.succ_ne_self, Nat.reduceBneDiff, cz_F1_is, cz_F1_f0, cz_F1_f1, cz_F1_f2, cz_F1_f3, cz_F1_f4, cz_F1_f5, cz_F1_f6, cz_F1_f7, cz_F2_is, cz_F2_f0, cz_F2_f1, cz_F2_f2, cz_F5_is, cz_F5_f0, cz_F5_f1, cz_F5_f2, cz_F5_f3, cz_F5_f4, cz_F10_is, cz_F10_f0, cz_F10_f1, cz_F10_f2, cz_F10_f3, cz_F10_f4, cz_F10_f5, cz_F10_f6, cz_F10_f7, cz_F13_is, cz_F13_f0, cz_F13_f1, cz_F13_f2, cz_F13_f3, cz_F13_f4, cz_F17_is, cz_F17_f0, cz_F17_f1, cz_F17_f2, cz_F17_f3, cz_F17_f4, cz_F17_f5, cz_F18_is, cz_F18_f0, cz_F18_f1, cz_F19_is, cz_F19_f0, cz_F19_f1, cz_F19_f2, cz_F19_f3, cz_F11_n, cz_F11_r, cz_F11_w, cz_F14_n, cz_F14_r, cz_F14_w, cz_F15_n, cz_F15_r, cz_F15_w, cz_F16_n, cz_F16_r, cz_F16_w, cz_F20_n, cz_F20_r, cz_F20_w, cz_F21_n, cz_F21_r, cz_F21_w, cz_F22_n, cz_F22_r, cz_F22_w, cz_F12_n, cz_F12_r, cz_F12_w, cz_F6_n, cz_F6_r, cz_F6_w, cz_F7_n, cz_F7_r, cz_F7_w, cz_F8_n, cz_F8_r, cz_F8_w, cz_F9_n, cz_F9_r, cz_F9_w, cz_F3_r, cz_F3_n, cz_F4_r, cz_F4_n, cz_F1_w6, cz_F1_u6, cz_F1_w7, cz_F1_u7, cz_F2_w2, cz_F2_u2, cz_F5_w0, cz_F5_u0, cz_F10_w0, cz_F10_u0, cz_F10_w1, cz_F10_u1, cz_F10_w2, cz_F10_u2, cz_F10_w3, cz_F10_u3, cz_F10_w4, cz_F10_u4, cz_F10_w6, cz_F10_u6, cz_F13_w3, cz_F13_u3, cz_F13_w4, cz_F13_u4, cz_F17_w5, cz_F17_u5, cz_F19_w3, cz_F19_u3, cz_F11_u, cz_F14_u, cz_F15_u, cz_F16_u, cz_F20_u, cz_F21_u, cz_F22_u, cz_F12_u] | simp (disch := first | omega | (simp (disch := omega) only [az_up_ee, az_up_kn, az_up_en]; omega)) only [Int.reduceEq, Int.reduceLT, Int.reduceLE, Int.reduceAdd, Int.reduceMul, Int.reduceSub, Int.reduceNeg, Int.add_zero, Int.zero_add, ge_iff_le, gt_iff_lt, az_mi_s, az_ml_s, az_ma_r, az_ma_n, az_s1_ap, az_s2_ap, az_nl_i, az_nl_r, az_nl_0, az_nl_e, az_nl_l, az_arg_ap, az_arg_e, Value.category, Option.toList, List.cons_append, List.nil_append, az_cat, reduceIte, Nat.reduceAdd, Nat.reduceEqDiff, Nat.reduceLeDiff, Nat.reduceSub, Nat.reduceLT, true_and, and_true, false_and, and_false, not_true_eq_false, not_false_eq_true, implies_true, true_implies, false_implies, and_self, eq_self, if_true, if_false, true_or, or_true, or_false, false_or, Nat.zero_add, Nat.add_zero, Nat.succ_ne_self, Nat.reduceBneDiff, lc_gt, lc_le, lc_eq, lz_toInt, lz_add, lz_sub, lz_mul, lz_i2l, lz_l2i, lz_div, lz_eq, lz_eq0, lz_rv, az_add, az_sub, az_mul, az_toInt, az_le, az_lt, az_eq, az_le0, az_0le, az_lt0, az_0lt, az_eq0, az_eq1, az_up_ee, az_up_kn, az_up_en, az_rb0, az_rb1, az_rbi, az_rbx, az_rvI, az_bo, az_b01, az_bz, az_b0, az_b1, az_nn, cz_F6_u, cz_F7_u, cz_F8_u, cz_F9_u, c1, c1', c2, c2', cz_bo_n ht, w1, hx] | simp (config := {contextual := true}) (disch := first | omega | (simp (disch := omega) only [az_up_ee, az_up_kn, az_up_en]; omega)) only [Int.reduceEq, Int.reduceLT, Int.reduceLE, Int.reduceAdd, Int.reduceMul, Int.reduceSub, Int.reduceNeg, Int.add_zero, Int.zero_add, ge_iff_le, gt_iff_lt, az_mi_s, az_ml_s, az_ma_r, az_ma_n, az_s1_ap, az_s2_ap, az_nl_i, az_nl_r, az_nl_0, az_nl_e, az_nl_l, az_arg_ap, az_arg_e, Value.category, Option.toList, List.cons_append, List.nil_append, az_cat, reduceIte, Nat.reduceAdd, Nat.reduceEqDiff, Nat.reduceLeDiff, Nat.reduceSub, Nat.reduceLT, true_and, and_true, false_and, and_false, not_true_eq_false, not_false_eq_true, implies_true, true_implies, false_implies, and_self, eq_self, if_true, if_false, true_or, or_true, or_false, false_or, Nat.zero_add, Nat.add_zero, Nat.succ_ne_self, Nat.reduceBneDiff, lc_gt, lc_le, lc_eq, lz_toInt, lz_add, lz_sub, lz_mul, lz_i2l, lz_l2i, lz_div, lz_eq, lz_eq0, lz_rv, az_add, az_sub, az_mul, az_toInt, az_le, az_lt, az_eq, az_le0, az_0le, az_lt0, az_0lt, az_eq0, az_eq1, az_up_ee, az_up_kn, az_up_en, az_rb0, az_rb1, az_rbi, az_rbx, az_rvI, az_bo, az_b01, az_bz, az_b0, az_b1, az_nn, cz_F6_u, cz_F7_u, cz_F8_u, cz_F9_u, c1, c1', c2, c2', cz_bo_n ht, w1, hx])
  simp only [az_s15_39]
  repeat (first | simp only [az_s15_0, az_s15_1, az_s15_4, az_s15_5, az_s15_6, az_s15_9, az_s15_10, az_s15_13, az_s15_14, az_s15_17, az_s15_18, az_s15_19n, az_s15_19, az_s15_22, az_s15_23, az_s15_24, az_s15_26, az_s15_29, az_s15_32, az_s15_33, az_s15_34, az_s15_35, az_s15_38, az_s15_42, az_s15_42r, az_s15_43, az_s15_44, az_s15_47, az_s15_49, Int.reduceEq, Int.reduceLT, Int.reduceLE, Int.reduceAdd, Int.reduceMul, Int.reduceSub, Int.reduceNeg, Int.add_zero, Int.zero_add, ge_iff_le, gt_iff_lt, az_mi_s, az_ml_s, az_ma_r, az_ma_n, az_s1_ap, az_s2_ap, az_nl_i, az_nl_r, az_nl_0, az_nl_e, az_nl_l, az_arg_ap, az_arg_e, Value.category, Option.toList, List.cons_append, List.nil_append, az_cat, reduceIte, Nat.reduceAdd, Nat.reduceEqDiff, Nat.reduceLeDiff, Nat.reduceSub, Nat.reduceLT, true_and, and_true, false_and, and_false, not_true_eq_false, not_false_eq_true, implies_true, true_implies, false_implies, and_self, eq_self, if_true, if_false, true_or, or_true, or_false, false_or, Nat.zero_add, Nat.add_zero, Nat.succ_ne_self, Nat.reduceBneDiff, rz_r0_0, rz_w0_0, rz_r0_1, rz_w0_1, rz_r0_2, rz_w0_2, rz_r0_3, rz_w0_3, rz_i0, rz_z0, rz_r1_0, rz_w1_0, rz_r1_1, rz_w1_1, rz_r1_2, rz_w1_2, rz_r1_3, rz_w1_3, rz_r1_4, rz_w1_4, rz_i1, rz_z1, rz_r2_0, rz_w2_0, rz_r2_1, rz_w2_1, rz_r2_2, rz_w2_2, rz_i2, rz_z2, rz_r3_0, rz_w3_0, rz_r3_1, rz_w3_1, rz_r3_2, rz_w3_2, rz_r3_3, rz_w3_3, rz_r3_4, rz_w3_4, rz_r3_5, rz_w3_5, rz_r3_6, rz_w3_6, rz_r3_7, rz_w3_7, rz_i3, rz_z3, rz_r4_0, rz_w4_0, rz_r4_1, rz_w4_1, rz_r4_2, rz_w4_2, rz_r4_3, rz_w4_3, rz_i4, rz_z4, rz_r5_0, rz_w5_0, rz_r5_1, rz_w5_1, rz_r5_2, rz_w5_2, rz_r5_3, rz_w5_3, rz_r5_4, rz_w5_4, rz_i5, rz_z5, rz_r6_0, rz_w6_0, rz_r6_1, rz_w6_1, rz_r6_2, rz_w6_2, rz_r6_3, rz_w6_3, rz_i6, rz_z6, rz_r7_0, rz_w7_0, rz_r7_1, rz_w7_1, rz_r7_2, rz_w7_2, rz_r7_3, rz_w7_3, rz_r7_4, rz_w7_4, rz_r7_5, rz_w7_5, rz_i7, rz_z7, rz_r8_0, rz_w8_0, rz_r8_1, rz_w8_1, rz_r8_2, rz_w8_2, rz_r8_3, rz_w8_3, rz_r8_4, rz_w8_4, rz_r8_5, rz_w8_5, rz_r8_6, rz_w8_6, rz_r8_7, rz_w8_7, rz_r8_8, rz_w8_8, rz_r8_9, rz_w8_9, rz_r8_10, rz_w8_10, rz_r8_11, rz_w8_11, rz_r8_12, rz_w8_12, rz_r8_13, rz_w8_13, rz_r8_14, rz_w8_14, rz_r8_15, rz_w8_15, rz_r8_16, rz_w8_16, rz_r8_17, rz_w8_17, rz_r8_18, rz_w8_18, rz_r8_19, rz_w8_19, rz_i8, rz_z8, rz_r9_0, rz_w9_0, rz_r9_1, rz_w9_1, rz_i9, rz_z9, rz_r10_0, rz_w10_0, rz_r10_1, rz_w10_1, rz_r10_2, rz_w10_2, rz_r10_3, rz_w10_3, rz_r10_4, rz_w10_4, rz_r10_5, rz_w10_5, rz_r10_6, rz_w10_6, rz_r10_7, rz_w10_7, rz_i10, rz_z10, rz_nw, rz_uh] | simp (disch := first | omega | (simp (disch := omega) only [az_up_ee, az_up_kn, az_up_en]; omega)) only [Int.reduceEq, Int.reduceLT, Int.reduceLE, Int.reduceAdd, Int.reduceMul, Int.reduceSub, Int.reduceNeg, Int.add_zero, Int.zero_add, ge_iff_le, gt_iff_lt, az_mi_s, az_ml_s, az_ma_r, az_ma_n, az_s1_ap, az_s2_ap, az_nl_i, az_nl_r, az_nl_0, az_nl_e, az_nl_l, az_arg_ap, az_arg_e, Value.category, Option.toList, List.cons_append, List.nil_append, az_cat, reduceIte, Nat.reduceAdd, Nat.reduceEqDiff, Nat.reduceLeDiff, Nat.reduceSub, Nat.reduceLT, true_and, and_true, false_and, and_false, not_true_eq_false, not_false_eq_true, implies_true, true_implies, false_implies, and_self, eq_self, if_true, if_false, true_or, or_true, or_false, false_or, Nat.zero_add, Nat.add_zero, Nat.succ_ne_self, Nat.reduceBneDiff, lc_gt, lc_le, lc_eq, lz_toInt, lz_add, lz_sub, lz_mul, lz_i2l, lz_l2i, lz_div, lz_eq, lz_eq0, lz_rv, az_add, az_sub, az_mul, az_toInt, az_le, az_lt, az_eq, az_le0, az_0le, az_lt0, az_0lt, az_eq0, az_eq1, az_up_ee, az_up_kn, az_up_en, az_rb0, az_rb1, az_rbi, az_rbx, az_rvI, az_bo, az_b01, az_bz, az_b0, az_b1, az_nn, va_eq, va_ne, Nat.add_assoc, rz_uu, Int.reduceToNat, cI, aa])
  rw [fin]
  simp only [az_s15_48]
  repeat (first | simp only [az_s15_0, az_s15_1, az_s15_4, az_s15_5, az_s15_6, az_s15_9, az_s15_10, az_s15_13, az_s15_14, az_s15_17, az_s15_18, az_s15_19n, az_s15_19, az_s15_22, az_s15_23, az_s15_24, az_s15_26, az_s15_29, az_s15_32, az_s15_33, az_s15_34, az_s15_35, az_s15_38, az_s15_42, az_s15_42r, az_s15_43, az_s15_44, az_s15_47, az_s15_49, Int.reduceEq, Int.reduceLT, Int.reduceLE, Int.reduceAdd, Int.reduceMul, Int.reduceSub, Int.reduceNeg, Int.add_zero, Int.zero_add, ge_iff_le, gt_iff_lt, az_mi_s, az_ml_s, az_ma_r, az_ma_n, az_s1_ap, az_s2_ap, az_nl_i, az_nl_r, az_nl_0, az_nl_e, az_nl_l, az_arg_ap, az_arg_e, Value.category, Option.toList, List.cons_append, List.nil_append, az_cat, reduceIte, Nat.reduceAdd, Nat.reduceEqDiff, Nat.reduceLeDiff, Nat.reduceSub, Nat.reduceLT, true_and, and_true, false_and, and_false, not_true_eq_false, not_false_eq_true, implies_true, true_implies, false_implies, and_self, eq_self, if_true, if_false, true_or, or_true, or_false, false_or, Nat.zero_add, Nat.add_zero, Nat.succ_ne_self, Nat.reduceBneDiff, rz_r0_0, rz_w0_0, rz_r0_1, rz_w0_1, rz_r0_2, rz_w0_2, rz_r0_3, rz_w0_3, rz_i0, rz_z0, rz_r1_0, rz_w1_0, rz_r1_1, rz_w1_1, rz_r1_2, rz_w1_2, rz_r1_3, rz_w1_3, rz_r1_4, rz_w1_4, rz_i1, rz_z1, rz_r2_0, rz_w2_0, rz_r2_1, rz_w2_1, rz_r2_2, rz_w2_2, rz_i2, rz_z2, rz_r3_0, rz_w3_0, rz_r3_1, rz_w3_1, rz_r3_2, rz_w3_2, rz_r3_3, rz_w3_3, rz_r3_4, rz_w3_4, rz_r3_5, rz_w3_5, rz_r3_6, rz_w3_6, rz_r3_7, rz_w3_7, rz_i3, rz_z3, rz_r4_0, rz_w4_0, rz_r4_1, rz_w4_1, rz_r4_2, rz_w4_2, rz_r4_3, rz_w4_3, rz_i4, rz_z4, rz_r5_0, rz_w5_0, rz_r5_1, rz_w5_1, rz_r5_2, rz_w5_2, rz_r5_3, rz_w5_3, rz_r5_4, rz_w5_4, rz_i5, rz_z5, rz_r6_0, rz_w6_0, rz_r6_1, rz_w6_1, rz_r6_2, rz_w6_2, rz_r6_3, rz_w6_3, rz_i6, rz_z6, rz_r7_0, rz_w7_0, rz_r7_1, rz_w7_1, rz_r7_2, rz_w7_2, rz_r7_3, rz_w7_3, rz_r7_4, rz_w7_4, rz_r7_5, rz_w7_5, rz_i7, rz_z7, rz_r8_0, rz_w8_0, rz_r8_1, rz_w8_1, rz_r8_2, rz_w8_2, rz_r8_3, rz_w8_3, rz_r8_4, rz_w8_4, rz_r8_5, rz_w8_5, rz_r8_6, rz_w8_6, rz_r8_7, rz_w8_7, rz_r8_8, rz_w8_8, rz_r8_9, rz_w8_9, rz_r8_10, rz_w8_10, rz_r8_11, rz_w8_11, rz_r8_12, rz_w8_12, rz_r8_13, rz_w8_13, rz_r8_14, rz_w8_14, rz_r8_15, rz_w8_15, rz_r8_16, rz_w8_16, rz_r8_17, rz_w8_17, rz_r8_18, rz_w8_18, rz_r8_19, rz_w8_19, rz_i8, rz_z8, rz_r9_0, rz_w9_0, rz_r9_1, rz_w9_1, rz_i9, rz_z9, rz_r10_0, rz_w10_0, rz_r10_1, rz_w10_1, rz_r10_2, rz_w10_2, rz_r10_3, rz_w10_3, rz_r10_4, rz_w10_4, rz_r10_5, rz_w10_5, rz_r10_6, rz_w10_6, rz_r10_7, rz_w10_7, rz_i10, rz_z10, rz_nw, rz_uh] | simp (disch := first | omega | (simp (disch := omega) only [az_up_ee, az_up_kn, az_up_en]; omega)) only [Int.reduceEq, Int.reduceLT, Int.reduceLE, Int.reduceAdd, Int.reduceMul, Int.reduceSub, Int.reduceNeg, Int.add_zero, Int.zero_add, ge_iff_le, gt_iff_lt, az_mi_s, az_ml_s, az_ma_r, az_ma_n, az_s1_ap, az_s2_ap, az_nl_i, az_nl_r, az_nl_0, az_nl_e, az_nl_l, az_arg_ap, az_arg_e, Value.category, Option.toList, List.cons_append, List.nil_append, az_cat, reduceIte, Nat.reduceAdd, Nat.reduceEqDiff, Nat.reduceLeDiff, Nat.reduceSub, Nat.reduceLT, true_and, and_true, false_and, and_false, not_true_eq_false, not_false_eq_true, implies_true, true_implies, false_implies, and_self, eq_self, if_true, if_false, true_or, or_true, or_false, false_or, Nat.zero_add, Nat.add_zero, Nat.succ_ne_self, Nat.reduceBneDiff, lc_gt, lc_le, lc_eq, lz_toInt, lz_add, lz_sub, lz_mul, lz_i2l, lz_l2i, lz_div, lz_eq, lz_eq0, lz_rv, az_add, az_sub, az_mul, az_toInt, az_le, az_lt, az_eq, az_le0, az_0le, az_lt0, az_0lt, az_eq0, az_eq1, az_up_ee, az_up_kn, az_up_en, az_rb0, az_rb1, az_rbi, az_rbx, az_rvI, az_bo, az_b01, az_bz, az_b0, az_b1, az_nn, va_eq, va_ne, Nat.add_assoc, rz_uu, Int.reduceToNat])
  all_goals repeat' (first | with_reducible refine And.intro ?_ ?_ | with_reducible intro _)
  all_goals first | omega | (exfalso; omega) | grind
set_option maxRecDepth 20000 in
set_option maxHeartbeats 1000000 in
theorem cm_addBinN (b x : Int) (hb : -2147483648 ≤ b ∧ b < 2147483648) (hx : -2147483648 ≤ x ∧ x < 2147483648) (hc : ¬ ((0 ≤ b ∧ b < 16) ∧ (1 ≤ x ∧ x ≤ 20) ∧ ¬ G.tb b = true)) : az_ex az_T (n + 2) 15 [.ref (G.ad 2), .int (Int32.ofInt b), .int (Int32.ofInt x)] (cz_H G S f, z) (some (.int (Int32.ofInt 0))) (cz_H G S f, z) := by
  refine az_ex_eq (R := az_r15) rfl (Nat.le_of_ble_eq_true rfl) ?_
  show az_p15 _ _ _
  have w1 : ∀ K, az_mc (az_ex az_T (n + 1)) 132 [.int (Int32.ofInt x), .int (Int32.ofInt 1), .int (Int32.ofInt 20)] (cz_H G S f, z) K = K _ _ := fun K => cx_within x 1 20 _ (by omega) (by omega) (by omega) (by omega) (by omega) (by omega)
  by_cases c1 : 0 ≤ b ∧ b < 16
  · obtain ⟨c1, c2⟩ := c1
    by_cases c3 : G.tb b = true
    · repeat (first | simp only [az_s15_0, az_s15_1, az_s15_4, az_s15_5, az_s15_6, az_s15_9, az_s15_10, az_s15_13, az_s15_14, az_s15_17, az_s15_18, az_s15_19n, az_s15_19, az_s15_23, az_s15_24, az_s15_26, az_s15_29, az_s15_32, az_s15_33, az_s15_34, az_s15_35, az_s15_38, az_s15_39, az_s15_42, az_s15_42r, az_s15_43, az_s15_44, az_s15_47, az_s15_48, az_s15_49, Int.reduceEq, Int.reduceLT, Int.reduceLE, Int.reduceAdd, Int.reduceMul, Int.reduceSub, Int.reduceNeg, Int.add_zero, Int.zero_add, ge_iff_le, gt_iff_lt, az_mi_s, az_ml_s, az_ma_r, az_ma_n, az_s1_ap, az_s2_ap, az_nl_i, az_nl_r, az_nl_0, az_nl_e, az_nl_l, az_arg_ap, az_arg_e, Value.category, Option.toList, List.cons_append, List.nil_append, az_cat, reduceIte, Nat.reduceAdd, Nat.reduceEqDiff, Nat.reduceLeDiff, Nat.reduceSub, Nat.reduceLT, true_and, and_true, false_and, and_false, not_true_eq_false, not_false_eq_true, implies_true, true_implies, false_implies, and_self, eq_self, if_true, if_false, true_or, or_true, or_false, false_or, Nat.zero_add, Nat.add_zero, Nat.succ_ne_self, Nat.reduceBneDiff, cz_F1_is, cz_F1_f0, cz_F1_f1, cz_F1_f2, cz_F1_f3, cz_F1_f4, cz_F1_f5, cz_F1_f6, cz_F1_f7, cz_F2_is, cz_F2_f0, cz_F2_f1, cz_F2_f2, cz_F5_is, cz_F5_f0, cz_F5_f1, cz_F5_f2, cz_F5_f3, cz_F5_f4, cz_F10_is, cz_F10_f0, cz_F10_f1, cz_F10_f2, cz_F10_f3, cz_F10_f4, cz_F10_f5, cz_F10_f6, cz_F10_f7, cz_F13_is, cz_F13_f0, cz_F13_f1, cz_F13_f2, cz_F13_f3, cz_F13_f4, cz_F17_is, cz_F17_f0, cz_F17_f1, cz_F17_f2, cz_F17_f3, cz_F17_f4, cz_F17_f5, cz_F18_is, cz_F18_f0, cz_F18_f1, cz_F19_is, cz_F19_f0, cz_F19_f1, cz_F19_f2, cz_F19_f3, cz_F11_n, cz_F11_r, cz_F11_w, cz_F14_n, cz_F14_r, cz_F14_w, cz_F15_n, cz_F15_r, cz_F15_w, cz_F16_n, cz_F16_r, cz_F16_w, cz_F20_n, cz_F20_r, cz_F20_w, cz_F21_n, cz_F21_r, cz_F21_w, cz_F22_n, cz_F22_r, cz_F22_w, cz_F12_n, cz_F12_r, cz_F12_w, cz_F6_n, cz_F6_r, cz_F6_w, cz_F7_n, cz_F7_r, cz_F7_w, cz_F8_n, cz_F8_r, cz_F8_w, cz_F9_n, cz_F9_r, cz_F9_w, cz_F3_r, cz_F3_n, cz_F4_r, cz_F4_n, cz_F1_w6, cz_F1_u6, cz_F1_w7, cz_F1_u7, cz_F2_w2, cz_F2_u2, cz_F5_w0, cz_F5_u0, cz_F10_w0, cz_F10_u0, cz_F10_w1, cz_F10_u1, cz_F10_w2, cz_F10_u2, cz_F10_w3, cz_F10_u3, cz_F10_w4, cz_F10_u4, cz_F10_w6, cz_F10_u6, cz_F13_w3, cz_F13_u3, cz_F13_w4, cz_F13_u4, cz_F17_w5, cz_F17_u5, cz_F19_w3, cz_F19_u3, cz_F11_u, cz_F14_u, cz_F15_u, cz_F16_u, cz_F20_u, cz_F21_u, cz_F22_u, cz_F12_u] | simp (disch := first | omega | (simp (disch := omega) only [az_up_ee, az_up_kn, az_up_en]; omega)) only [Int.reduceEq, Int.reduceLT, Int.reduceLE, Int.reduceAdd, Int.reduceMul, Int.reduceSub, Int.reduceNeg, Int.add_zero, Int.zero_add, ge_iff_le, gt_iff_lt, az_mi_s, az_ml_s, az_ma_r, az_ma_n, az_s1_ap, az_s2_ap, az_nl_i, az_nl_r, az_nl_0, az_nl_e, az_nl_l, az_arg_ap, az_arg_e, Value.category, Option.toList, List.cons_append, List.nil_append, az_cat, reduceIte, Nat.reduceAdd, Nat.reduceEqDiff, Nat.reduceLeDiff, Nat.reduceSub, Nat.reduceLT, true_and, and_true, false_and, and_false, not_true_eq_false, not_false_eq_true, implies_true, true_implies, false_implies, and_self, eq_self, if_true, if_false, true_or, or_true, or_false, false_or, Nat.zero_add, Nat.add_zero, Nat.succ_ne_self, Nat.reduceBneDiff, lc_gt, lc_le, lc_eq, lz_toInt, lz_add, lz_sub, lz_mul, lz_i2l, lz_l2i, lz_div, lz_eq, lz_eq0, lz_rv, az_add, az_sub, az_mul, az_toInt, az_le, az_lt, az_eq, az_le0, az_0le, az_lt0, az_0lt, az_eq0, az_eq1, az_up_ee, az_up_kn, az_up_en, az_rb0, az_rb1, az_rbi, az_rbx, az_rvI, az_bo, az_b01, az_bz, az_b0, az_b1, az_nn, cz_F6_u, cz_F7_u, cz_F8_u, cz_F9_u, c1, c2, cz_bo_y c3] | simp (config := {contextual := true}) (disch := first | omega | (simp (disch := omega) only [az_up_ee, az_up_kn, az_up_en]; omega)) only [Int.reduceEq, Int.reduceLT, Int.reduceLE, Int.reduceAdd, Int.reduceMul, Int.reduceSub, Int.reduceNeg, Int.add_zero, Int.zero_add, ge_iff_le, gt_iff_lt, az_mi_s, az_ml_s, az_ma_r, az_ma_n, az_s1_ap, az_s2_ap, az_nl_i, az_nl_r, az_nl_0, az_nl_e, az_nl_l, az_arg_ap, az_arg_e, Value.category, Option.toList, List.cons_append, List.nil_append, az_cat, reduceIte, Nat.reduceAdd, Nat.reduceEqDiff, Nat.reduceLeDiff, Nat.reduceSub, Nat.reduceLT, true_and, and_true, false_and, and_false, not_true_eq_false, not_false_eq_true, implies_true, true_implies, false_implies, and_self, eq_self, if_true, if_false, true_or, or_true, or_false, false_or, Nat.zero_add, Nat.add_zero, Nat.succ_ne_self, Nat.reduceBneDiff, lc_gt, lc_le, lc_eq, lz_toInt, lz_add, lz_sub, lz_mul, lz_i2l, lz_l2i, lz_div, lz_eq, lz_eq0, lz_rv, az_add, az_sub, az_mul, az_toInt, az_le, az_lt, az_eq, az_le0, az_0le, az_lt0, az_0lt, az_eq0, az_eq1, az_up_ee, az_up_kn, az_up_en, az_rb0, az_rb1, az_rbi, az_rbx, az_rvI, az_bo, az_b01, az_bz, az_b0, az_b1, az_nn, cz_F6_u, cz_F7_u, cz_F8_u, cz_F9_u, c1, c2, cz_bo_y c3])
      all_goals repeat' (first | with_reducible refine And.intro ?_ ?_ | with_reducible intro _)
      all_goals first | omega | (exfalso; omega) | grind
    · have c4 : ¬ (1 ≤ x ∧ x ≤ 20) := fun h => hc ⟨⟨c1, c2⟩, h, c3⟩
      repeat (first | simp only [az_s15_0, az_s15_1, az_s15_4, az_s15_5, az_s15_6, az_s15_9, az_s15_10, az_s15_13, az_s15_14, az_s15_17, az_s15_18, az_s15_19n, az_s15_19, az_s15_22, az_s15_23, az_s15_24, az_s15_26, az_s15_29, az_s15_32, az_s15_33, az_s15_35, az_s15_38, az_s15_39, az_s15_42, az_s15_42r, az_s15_43, az_s15_44, az_s15_47, az_s15_48, az_s15_49, Int.reduceEq, Int.reduceLT, Int.reduceLE, Int.reduceAdd, Int.reduceMul, Int.reduceSub, Int.reduceNeg, Int.add_zero, Int.zero_add, ge_iff_le, gt_iff_lt, az_mi_s, az_ml_s, az_ma_r, az_ma_n, az_s1_ap, az_s2_ap, az_nl_i, az_nl_r, az_nl_0, az_nl_e, az_nl_l, az_arg_ap, az_arg_e, Value.category, Option.toList, List.cons_append, List.nil_append, az_cat, reduceIte, Nat.reduceAdd, Nat.reduceEqDiff, Nat.reduceLeDiff, Nat.reduceSub, Nat.reduceLT, true_and, and_true, false_and, and_false, not_true_eq_false, not_false_eq_true, implies_true, true_implies, false_implies, and_self, eq_self, if_true, if_false, true_or, or_true, or_false, false_or, Nat.zero_add, Nat.add_zero, Nat.succ_ne_self, Nat.reduceBneDiff, cz_F1_is, cz_F1_f0, cz_F1_f1, cz_F1_f2, cz_F1_f3, cz_F1_f4, cz_F1_f5, cz_F1_f6, cz_F1_f7, cz_F2_is, cz_F2_f0, cz_F2_f1, cz_F2_f2, cz_F5_is, cz_F5_f0, cz_F5_f1, cz_F5_f2, cz_F5_f3, cz_F5_f4, cz_F10_is, cz_F10_f0, cz_F10_f1, cz_F10_f2, cz_F10_f3, cz_F10_f4, cz_F10_f5, cz_F10_f6, cz_F10_f7, cz_F13_is, cz_F13_f0, cz_F13_f1, cz_F13_f2, cz_F13_f3, cz_F13_f4, cz_F17_is, cz_F17_f0, cz_F17_f1, cz_F17_f2, cz_F17_f3, cz_F17_f4, cz_F17_f5, cz_F18_is, cz_F18_f0, cz_F18_f1, cz_F19_is, cz_F19_f0, cz_F19_f1, cz_F19_f2, cz_F19_f3, cz_F11_n, cz_F11_r, cz_F11_w, cz_F14_n, cz_F14_r, cz_F14_w, cz_F15_n, cz_F15_r, cz_F15_w, cz_F16_n, cz_F16_r, cz_F16_w, cz_F20_n, cz_F20_r, cz_F20_w, cz_F21_n, cz_F21_r, cz_F21_w, cz_F22_n, cz_F22_r, cz_F22_w, cz_F12_n, cz_F12_r, cz_F12_w, cz_F6_n, cz_F6_r, cz_F6_w, cz_F7_n, cz_F7_r, cz_F7_w, cz_F8_n, cz_F8_r, cz_F8_w, cz_F9_n, cz_F9_r, cz_F9_w, cz_F3_r, cz_F3_n, cz_F4_r, cz_F4_n, cz_F1_w6, cz_F1_u6, cz_F1_w7, cz_F1_u7, cz_F2_w2, cz_F2_u2, cz_F5_w0, cz_F5_u0, cz_F10_w0, cz_F10_u0, cz_F10_w1, cz_F10_u1, cz_F10_w2, cz_F10_u2, cz_F10_w3, cz_F10_u3, cz_F10_w4, cz_F10_u4, cz_F10_w6, cz_F10_u6, cz_F13_w3, cz_F13_u3, cz_F13_w4, cz_F13_u4, cz_F17_w5, cz_F17_u5, cz_F19_w3, cz_F19_u3, cz_F11_u, cz_F14_u, cz_F15_u, cz_F16_u, cz_F20_u, cz_F21_u, cz_F22_u, cz_F12_u] | simp (disch := first | omega | (simp (disch := omega) only [az_up_ee, az_up_kn, az_up_en]; omega)) only [Int.reduceEq, Int.reduceLT, Int.reduceLE, Int.reduceAdd, Int.reduceMul, Int.reduceSub, Int.reduceNeg, Int.add_zero, Int.zero_add, ge_iff_le, gt_iff_lt, az_mi_s, az_ml_s, az_ma_r, az_ma_n, az_s1_ap, az_s2_ap, az_nl_i, az_nl_r, az_nl_0, az_nl_e, az_nl_l, az_arg_ap, az_arg_e, Value.category, Option.toList, List.cons_append, List.nil_append, az_cat, reduceIte, Nat.reduceAdd, Nat.reduceEqDiff, Nat.reduceLeDiff, Nat.reduceSub, Nat.reduceLT, true_and, and_true, false_and, and_false, not_true_eq_false, not_false_eq_true, implies_true, true_implies, false_implies, and_self, eq_self, if_true, if_false, true_or, or_true, or_false, false_or, Nat.zero_add, Nat.add_zero, Nat.succ_ne_self, Nat.reduceBneDiff, lc_gt, lc_le, lc_eq, lz_toInt, lz_add, lz_sub, lz_mul, lz_i2l, lz_l2i, lz_div, lz_eq, lz_eq0, lz_rv, az_add, az_sub, az_mul, az_toInt, az_le, az_lt, az_eq, az_le0, az_0le, az_lt0, az_0lt, az_eq0, az_eq1, az_up_ee, az_up_kn, az_up_en, az_rb0, az_rb1, az_rbi, az_rbx, az_rvI, az_bo, az_b01, az_bz, az_b0, az_b1, az_nn, cz_F6_u, cz_F7_u, cz_F8_u, cz_F9_u, c1, c2, cz_bo_n c3, w1, c4] | simp (config := {contextual := true}) (disch := first | omega | (simp (disch := omega) only [az_up_ee, az_up_kn, az_up_en]; omega)) only [Int.reduceEq, Int.reduceLT, Int.reduceLE, Int.reduceAdd, Int.reduceMul, Int.reduceSub, Int.reduceNeg, Int.add_zero, Int.zero_add, ge_iff_le, gt_iff_lt, az_mi_s, az_ml_s, az_ma_r, az_ma_n, az_s1_ap, az_s2_ap, az_nl_i, az_nl_r, az_nl_0, az_nl_e, az_nl_l, az_arg_ap, az_arg_e, Value.category, Option.toList, List.cons_append, List.nil_append, az_cat, reduceIte, Nat.reduceAdd, Nat.reduceEqDiff, Nat.reduceLeDiff, Nat.reduceSub, Nat.reduceLT, true_and, and_true, false_and, and_false, not_true_eq_false, not_false_eq_true, implies_true, true_implies, false_implies, and_self, eq_self, if_true, if_false, true_or, or_true, or_false, false_or, Nat.zero_add, Nat.add_zero, Nat.succ_ne_self, Nat.reduceBneDiff, lc_gt, lc_le, lc_eq, lz_toInt, lz_add, lz_sub, lz_mul, lz_i2l, lz_l2i, lz_div, lz_eq, lz_eq0, lz_rv, az_add, az_sub, az_mul, az_toInt, az_le, az_lt, az_eq, az_le0, az_0le, az_lt0, az_0lt, az_eq0, az_eq1, az_up_ee, az_up_kn, az_up_en, az_rb0, az_rb1, az_rbi, az_rbx, az_rvI, az_bo, az_b01, az_bz, az_b0, az_b1, az_nn, cz_F6_u, cz_F7_u, cz_F8_u, cz_F9_u, c1, c2, cz_bo_n c3, w1, c4])
      all_goals repeat' (first | with_reducible refine And.intro ?_ ?_ | with_reducible intro _)
      all_goals first | omega | (exfalso; omega) | grind
  · repeat (first | simp only [az_s15_0, az_s15_1, az_s15_4, az_s15_5, az_s15_6, az_s15_9, az_s15_10, az_s15_14, az_s15_17, az_s15_18, az_s15_19n, az_s15_19, az_s15_22, az_s15_23, az_s15_24, az_s15_26, az_s15_29, az_s15_32, az_s15_33, az_s15_34, az_s15_35, az_s15_38, az_s15_39, az_s15_42, az_s15_42r, az_s15_43, az_s15_44, az_s15_47, az_s15_48, az_s15_49, Int.reduceEq, Int.reduceLT, Int.reduceLE, Int.reduceAdd, Int.reduceMul, Int.reduceSub, Int.reduceNeg, Int.add_zero, Int.zero_add, ge_iff_le, gt_iff_lt, az_mi_s, az_ml_s, az_ma_r, az_ma_n, az_s1_ap, az_s2_ap, az_nl_i, az_nl_r, az_nl_0, az_nl_e, az_nl_l, az_arg_ap, az_arg_e, Value.category, Option.toList, List.cons_append, List.nil_append, az_cat, reduceIte, Nat.reduceAdd, Nat.reduceEqDiff, Nat.reduceLeDiff, Nat.reduceSub, Nat.reduceLT, true_and, and_true, false_and, and_false, not_true_eq_false, not_false_eq_true, implies_true, true_implies, false_implies, and_self, eq_self, if_true, if_false, true_or, or_true, or_false, false_or, Nat.zero_add, Nat.add_zero, Nat.succ_ne_self, Nat.reduceBneDiff, cz_F1_is, cz_F1_f0, cz_F1_f1, cz_F1_f2, cz_F1_f3, cz_F1_f4, cz_F1_f5, cz_F1_f6, cz_F1_f7, cz_F2_is, cz_F2_f0, cz_F2_f1, cz_F2_f2, cz_F5_is, cz_F5_f0, cz_F5_f1, cz_F5_f2, cz_F5_f3, cz_F5_f4, cz_F10_is, cz_F10_f0, cz_F10_f1, cz_F10_f2, cz_F10_f3, cz_F10_f4, cz_F10_f5, cz_F10_f6, cz_F10_f7, cz_F13_is, cz_F13_f0, cz_F13_f1, cz_F13_f2, cz_F13_f3, cz_F13_f4, cz_F17_is, cz_F17_f0, cz_F17_f1, cz_F17_f2, cz_F17_f3, cz_F17_f4, cz_F17_f5, cz_F18_is, cz_F18_f0, cz_F18_f1, cz_F19_is, cz_F19_f0, cz_F19_f1, cz_F19_f2, cz_F19_f3, cz_F11_n, cz_F11_r, cz_F11_w, cz_F14_n, cz_F14_r, cz_F14_w, cz_F15_n, cz_F15_r, cz_F15_w, cz_F16_n, cz_F16_r, cz_F16_w, cz_F20_n, cz_F20_r, cz_F20_w, cz_F21_n, cz_F21_r, cz_F21_w, cz_F22_n, cz_F22_r, cz_F22_w, cz_F12_n, cz_F12_r, cz_F12_w, cz_F6_n, cz_F6_r, cz_F6_w, cz_F7_n, cz_F7_r, cz_F7_w, cz_F8_n, cz_F8_r, cz_F8_w, cz_F9_n, cz_F9_r, cz_F9_w, cz_F3_r, cz_F3_n, cz_F4_r, cz_F4_n, cz_F1_w6, cz_F1_u6, cz_F1_w7, cz_F1_u7, cz_F2_w2, cz_F2_u2, cz_F5_w0, cz_F5_u0, cz_F10_w0, cz_F10_u0, cz_F10_w1, cz_F10_u1, cz_F10_w2, cz_F10_u2, cz_F10_w3, cz_F10_u3, cz_F10_w4, cz_F10_u4, cz_F10_w6, cz_F10_u6, cz_F13_w3, cz_F13_u3, cz_F13_w4, cz_F13_u4, cz_F17_w5, cz_F17_u5, cz_F19_w3, cz_F19_u3, cz_F11_u, cz_F14_u, cz_F15_u, cz_F16_u, cz_F20_u, cz_F21_u, cz_F22_u, cz_F12_u] | simp (disch := first | omega | (simp (disch := omega) only [az_up_ee, az_up_kn, az_up_en]; omega)) only [Int.reduceEq, Int.reduceLT, Int.reduceLE, Int.reduceAdd, Int.reduceMul, Int.reduceSub, Int.reduceNeg, Int.add_zero, Int.zero_add, ge_iff_le, gt_iff_lt, az_mi_s, az_ml_s, az_ma_r, az_ma_n, az_s1_ap, az_s2_ap, az_nl_i, az_nl_r, az_nl_0, az_nl_e, az_nl_l, az_arg_ap, az_arg_e, Value.category, Option.toList, List.cons_append, List.nil_append, az_cat, reduceIte, Nat.reduceAdd, Nat.reduceEqDiff, Nat.reduceLeDiff, Nat.reduceSub, Nat.reduceLT, true_and, and_true, false_and, and_false, not_true_eq_false, not_false_eq_true, implies_true, true_implies, false_implies, and_self, eq_self, if_true, if_false, true_or, or_true, or_false, false_or, Nat.zero_add, Nat.add_zero, Nat.succ_ne_self, Nat.reduceBneDiff, lc_gt, lc_le, lc_eq, lz_toInt, lz_add, lz_sub, lz_mul, lz_i2l, lz_l2i, lz_div, lz_eq, lz_eq0, lz_rv, az_add, az_sub, az_mul, az_toInt, az_le, az_lt, az_eq, az_le0, az_0le, az_lt0, az_0lt, az_eq0, az_eq1, az_up_ee, az_up_kn, az_up_en, az_rb0, az_rb1, az_rbi, az_rbx, az_rvI, az_bo, az_b01, az_bz, az_b0, az_b1, az_nn, cz_F6_u, cz_F7_u, cz_F8_u, cz_F9_u, c1] | simp (config := {contextual := true}) (disch := first | omega | (simp (disch := omega) only [az_up_ee, az_up_kn, az_up_en]; omega)) only [Int.reduceEq, Int.reduceLT, Int.reduceLE, Int.reduceAdd, Int.reduceMul, Int.reduceSub, Int.reduceNeg, Int.add_zero, Int.zero_add, ge_iff_le, gt_iff_lt, az_mi_s, az_ml_s, az_ma_r, az_ma_n, az_s1_ap, az_s2_ap, az_nl_i, az_nl_r, az_nl_0, az_nl_e, az_nl_l, az_arg_ap, az_arg_e, Value.category, Option.toList, List.cons_append, List.nil_append, az_cat, reduceIte, Nat.reduceAdd, Nat.reduceEqDiff, Nat.reduceLeDiff, Nat.reduceSub, Nat.reduceLT, true_and, and_true, false_and, and_false, not_true_eq_false, not_false_eq_true, implies_true, true_implies, false_implies, and_self, eq_self, if_true, if_false, true_or, or_true, or_false, false_or, Nat.zero_add, Nat.add_zero, Nat.succ_ne_self, Nat.reduceBneDiff, lc_gt, lc_le, lc_eq, lz_toInt, lz_add, lz_sub, lz_mul, lz_i2l, lz_l2i, lz_div, lz_eq, lz_eq0, lz_rv, az_add, az_sub, az_mul, az_toInt, az_le, az_lt, az_eq, az_le0, az_0le, az_lt0, az_0lt, az_eq0, az_eq1, az_up_ee, az_up_kn, az_up_en, az_rb0, az_rb1, az_rbi, az_rbx, az_rvI, az_bo, az_b01, az_bz, az_b0, az_b1, az_nn, cz_F6_u, cz_F7_u, cz_F8_u, cz_F9_u, c1])
    all_goals repeat' (first | with_reducible refine And.intro ?_ ?_ | with_reducible intro _)
    all_goals first | omega | (exfalso; omega) | grind
end CmCM
