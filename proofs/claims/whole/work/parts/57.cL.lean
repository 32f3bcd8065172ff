-- deps: 43.cls 43.raw 44.sta 44.stb 44.stc 44.std 45.cA 46.cB 47.cC 48.cD 51.cG 53.cH 54.cI 56.cK
/-- what was not told has no address yet -/
def cz_V (G : cz_G) : Prop := (∀ b, 0 ≤ b → b < 16 → ¬ G.tb b = true → ∀ a, G.cd a ≠ 32 + b.toNat ∧ G.cd a ≠ 48 + b.toNat) ∧ (∀ s, 0 ≤ s → s < 12 → ¬ G.ts s = true → ∀ j, j < 8 → ∀ a, G.cd a ≠ 64 + 8 * s.toNat + j) ∧ (∀ i, G.tb i = true → 0 ≤ i ∧ i < 16) ∧ (∀ i, G.ts i = true → 0 ≤ i ∧ i < 12)
def cz_ecd (G : cz_G) (z1 m c0 st : Nat) : Nat → Nat := fun a => if z1 ≤ a ∧ a < z1 + m then c0 + st * (a - z1) else G.cd a
def cz_ead (G : cz_G) (z1 m c0 st : Nat) : Nat → Nat := fun c => if c0 ≤ c ∧ c < c0 + st * m ∧ (c - c0) % st = 0 then z1 + (c - c0) / st else G.ad c
/-- a code of the new ones -/
def cz_isn (m c0 st c : Nat) : Prop := c0 ≤ c ∧ c < c0 + st * m ∧ (c - c0) % st = 0
theorem cz_e_o {G : cz_G} {z1 m c0 st c : Nat} (hz : ∀ a, z1 ≤ a → G.cd a = 0) (hs : 0 < st) (h0 : c ≠ 0) (hc : ¬ cz_isn m c0 st c) (h1 : G.cd (G.ad c) = c) (h2 : ∀ a, G.cd a = c → a = G.ad c) : cz_ecd G z1 m c0 st (cz_ead G z1 m c0 st c) = c ∧ ∀ a, cz_ecd G z1 m c0 st a = c → a = cz_ead G z1 m c0 st c := by
  have e : cz_ead G z1 m c0 st c = G.ad c := by
    exact if_neg hc
  rw [e]
  have hlt : ¬ z1 ≤ G.ad c := fun q => h0 (by rw [← h1]; exact hz _ q)
  constructor
  · unfold cz_ecd
    rw [if_neg (by omega), h1]
  · intro a q
    unfold cz_ecd at q
    split at q
    · rename_i ha
      exfalso
      apply hc
      unfold cz_isn
      refine ⟨by omega, ?_, ?_⟩
      · have : st * (a - z1) < st * m := Nat.mul_lt_mul_of_pos_left (by omega) hs
        omega
      · rw [← q, Nat.add_sub_cancel_left]
        exact Nat.mul_mod_right _ _
    · exact h2 a q
theorem cz_e_n {G : cz_G} {z1 m c0 st c : Nat} (hs : 0 < st) (hn : ∀ c, cz_isn m c0 st c → ∀ a, G.cd a ≠ c) (hc : cz_isn m c0 st c) : cz_ecd G z1 m c0 st (cz_ead G z1 m c0 st c) = c ∧ ∀ a, cz_ecd G z1 m c0 st a = c → a = cz_ead G z1 m c0 st c := by
  have e : cz_ead G z1 m c0 st c = z1 + (c - c0) / st := by
    exact if_pos hc
  obtain ⟨q1, q2, q3⟩ := id hc
  have e1 : st * ((c - c0) / st) = c - c0 := Nat.mul_div_cancel' (Nat.dvd_of_mod_eq_zero q3)
  have e2 : (c - c0) / st < m := by
    rw [Nat.div_lt_iff_lt_mul hs, Nat.mul_comm]
    omega
  rw [e]
  generalize hd : (c - c0) / st = d at e1 e2
  constructor
  · unfold cz_ecd
    rw [if_pos (by omega), Nat.add_sub_cancel_left, e1]
    omega
  · intro a q
    unfold cz_ecd at q
    split at q
    · rename_i ha
      have : d = a - z1 := by
        rw [← hd, ← q, Nat.add_sub_cancel_left, Nat.mul_div_cancel_left _ hs]
      omega
    · exact absurd q (hn c hc a)
def cz_ext (G : cz_G) (z1 m c0 st : Nat) (tb ts : Int → Bool) (hz : ∀ a, z1 ≤ a → G.cd a = 0) (hs : 0 < st) (h23 : 23 ≤ c0) : cz_G := ⟨cz_ecd G z1 m c0 st, cz_ead G z1 m c0 st, G.len, tb, ts, fun c h1 h2 => cz_e_o hz hs (by omega) (fun q => by unfold cz_isn at q; omega) (G.hF c h1 h2).1 (G.hF c h1 h2).2⟩
theorem cz_c_Gx {G G' : cz_G} {S : az_M} (c : Nat) (hl : G'.len = G.len) (h1 : ∀ d, d < 23 → G'.ad d = G.ad d) (h2 : 32 ≤ c → c < 48 → G'.ad (48 + (c - 32)) = G.ad (48 + (c - 32))) (h3 : 64 ≤ c → ∀ j, j < 8 → G'.ad (64 + 8 * ((c - 64) / 8) + j) = G.ad (64 + 8 * ((c - 64) / 8) + j)) (h4 : c = 3 → cz_bo G' = cz_bo G) (h5 : c = 4 → cz_so G' = cz_so G) : cz_c G' S c = cz_c G S c := by
  unfold cz_c
  split
  · unfold cz_cF
    split <;> first | rfl | (rw [h4 rfl]) | (rw [h5 rfl]) | (rw [hl]) | (unfold cz_f1; rw [h1 2 (by decide), h1 5 (by decide), h1 10 (by decide), h1 13 (by decide), h1 17 (by decide), h1 19 (by decide)]) | (unfold cz_f2; rw [h1 3 (by decide), h1 4 (by decide)]) | (unfold cz_f5; rw [h1 6 (by decide), h1 7 (by decide), h1 8 (by decide), h1 9 (by decide)]) | (unfold cz_f10; rw [h1 11 (by decide), h1 12 (by decide)]) | (unfold cz_f13; rw [h1 14 (by decide), h1 15 (by decide), h1 16 (by decide)]) | (unfold cz_f17; rw [h1 2 (by decide), h1 5 (by decide), h1 10 (by decide), h1 13 (by decide), h1 18 (by decide)]) | (unfold cz_f18; rw [h1 5 (by decide), h1 10 (by decide)]) | (unfold cz_f19; rw [h1 20 (by decide), h1 21 (by decide), h1 22 (by decide)])
  · split
    · unfold cz_fB cz_aq
      have e : ((c - 32 : Nat) : Int).toNat = c - 32 := by omega
      rw [e, h2 (by omega) (by omega)]
    · split
      · rfl
      · have e : (((c - 64) / 8 : Nat) : Int).toNat = (c - 64) / 8 := by omega
        have h3 := h3 (by omega)
        unfold cz_cS
        split <;> first | rfl | (unfold cz_fS cz_as; rw [e, h3 1 (by decide), h3 2 (by decide), h3 3 (by decide), h3 4 (by decide), h3 5 (by decide), h3 7 (by decide)]) | (unfold cz_fL cz_as; rw [e, h3 6 (by decide)])
section CmCL
variable {n : Nat} {G : cz_G} {S : az_M} {f : Nat → az_C} {z : Nat × Nat}
def cz_tb (t : Int → Bool) (b : Int) : Int → Bool := fun i => if i = b then true else t i
theorem cz_tb_y {t : Int → Bool} {b : Int} : cz_tb t b b = true := by unfold cz_tb; rw [if_pos rfl]
theorem cz_tb_n {t : Int → Bool} {b i : Int} (h : i ≠ b) : cz_tb t b i = t i := by unfold cz_tb; rw [if_neg h]
/-- the heap with a new bin -/
theorem cz_newB {b x : Int} (hb : 0 ≤ b ∧ b < 16) (hV : cz_V G) (ht : ¬ G.tb b = true) (hz : ∀ a, z.1 ≤ a → G.cd a = 0) (h0 : S 4 b = 0 ∧ S 6 b = 0 ∧ ∀ i, 40 * b ≤ i → i < 40 * b + 21 → S 5 i = 0) (g : Nat → az_C) (hg1 : g (G.ad 3) = az_ra 0 16 (az_ui (cz_bo G) b (some z.1))) (hg2 : g z.1 = az_ob 0 [.int (Int32.ofInt x), .ref (z.1 + 1), .int 0, .int 0]) (hg3 : g (z.1 + 1) = az_ia 0 21 (fun _ => 0)) (hg : ∀ a, a ≠ G.ad 3 → a ≠ z.1 → a ≠ z.1 + 1 → g a = cz_H G S f a) : g = cz_H (cz_ext G z.1 2 (32 + b.toNat) 16 (cz_tb G.tb b) G.ts hz (by decide) (by omega)) (az_up S 3 b x) f := by
  generalize hG : cz_ext G z.1 2 (32 + b.toNat) 16 (cz_tb G.tb b) G.ts hz (by decide) (by omega) = G'
  have hn : ∀ c, cz_isn 2 (32 + b.toNat) 16 c → ∀ a, G.cd a ≠ c := fun c hc a => by
    have q := hV.1 b hb.1 hb.2 ht a
    unfold cz_isn at hc
    rcases (show c = 32 + b.toNat ∨ c = 48 + b.toNat by omega) with e | e <;> rw [e]
    · exact q.1
    · exact q.2
  have had : ∀ c, G'.ad c = cz_ead G z.1 2 (32 + b.toNat) 16 c := fun c => by rw [← hG]; rfl
  have hcd : ∀ a, G'.cd a = cz_ecd G z.1 2 (32 + b.toNat) 16 a := fun a => by rw [← hG]; rfl
  have hado : ∀ c, ¬ cz_isn 2 (32 + b.toNat) 16 c → G'.ad c = G.ad c := fun c hc => by
    rw [had]
    exact if_neg hc
  have ha1 : G'.ad (32 + b.toNat) = z.1 := by
    rw [had]
    unfold cz_ead
    rw [if_pos (by omega), Nat.sub_self, Nat.zero_div, Nat.add_zero]
  have ha2 : G'.ad (48 + b.toNat) = z.1 + 1 := by
    rw [had]
    unfold cz_ead
    rw [if_pos (by omega), show 48 + b.toNat - (32 + b.toNat) = 16 by omega]
  have hso : cz_so G' = cz_so G := by
    funext i
    unfold cz_so cz_as
    have e : G'.ts = G.ts := by rw [← hG]; rfl
    rw [e, hado _ (by unfold cz_isn; omega)]
  have hbo : cz_bo G' = az_ui (cz_bo G) b (some z.1) := by
    funext i
    unfold cz_bo cz_ab az_ui
    dsimp only
    have e : G'.tb = cz_tb G.tb b := by rw [← hG]; rfl
    rw [e]
    by_cases c : i = b
    · rw [c, cz_tb_y, if_pos rfl, if_pos rfl, ha1]
    · rw [cz_tb_n c, if_neg c]
      split
      · rename_i q
        have := hV.2.2.1 i q
        rw [hado _ (by unfold cz_isn; omega)]
      · rfl
  have hlt : ∀ c, 1 ≤ c → c < 23 → G.ad c < z.1 := fun c h1 h2 => by
    apply Classical.byContradiction
    intro q
    have := hz (G.ad c) (by omega)
    rw [(G.hF c h1 h2).1] at this
    omega
  have hcell : ∀ c, c ≠ 3 → ¬ cz_isn 2 (32 + b.toNat) 16 c → c ≠ 0 → cz_c G' (az_up S 3 b x) c = cz_c G S c := fun c h3 hc h0 => by
    have e1 : cz_c G' (az_up S 3 b x) c = cz_c G' S c := cz_c_cg (fun k i q => by
      unfold az_up
      split
      · rename_i e1
        split
        · rename_i e2
          exfalso
          apply hc
          rw [e1, e2] at q
          have q : 32 + b.toNat = c := q
          unfold cz_isn
          omega
        · rfl
      · rfl)
    rw [e1]
    refine cz_c_Gx c (by rw [← hG]; rfl) (fun d hd => hado d (by unfold cz_isn; omega)) (fun h1 h2 => hado _ (by unfold cz_isn at hc ⊢; omega)) (fun h1 j hj => hado _ (by unfold cz_isn; omega)) (fun q => absurd q h3) (fun _ => hso)
  funext a
  unfold cz_H
  rw [hcd]
  by_cases e3 : a = G.ad 3
  · have q := hlt 3 (by decide) (by decide)
    have ec : cz_ecd G z.1 2 (32 + b.toNat) 16 a = 3 := by
      unfold cz_ecd
      rw [if_neg (by omega), e3, (G.hF 3 (by decide) (by decide)).1]
    rw [ec, if_neg (by decide), e3, hg1, ← hbo]
    rfl
  · by_cases e1 : a = z.1
    · have ec : cz_ecd G z.1 2 (32 + b.toNat) 16 a = 32 + b.toNat := by
        unfold cz_ecd
        rw [if_pos (by omega), e1, Nat.sub_self, Nat.mul_zero, Nat.add_zero]
      rw [ec, if_neg (by omega), e1, hg2, cz_c_B hb]
      unfold cz_fB cz_aq
      rw [ha2, az_up_ee, az_up_kn (by decide), az_up_kn (by decide), h0.1, h0.2.1]
      rfl
    · by_cases e2 : a = z.1 + 1
      · have ec : cz_ecd G z.1 2 (32 + b.toNat) 16 a = 48 + b.toNat := by
          unfold cz_ecd
          rw [if_pos (by omega), e2]
          omega
        rw [ec, if_neg (by omega), e2, hg3, cz_c_Q hb]
        congr 3
        funext i
        unfold cz_gr
        split
        · rw [az_up_kn (by decide), h0.2.2 _ (by omega) (by omega)]
          rfl
        · rfl
      · have ec : cz_ecd G z.1 2 (32 + b.toNat) 16 a = G.cd a := by
          unfold cz_ecd
          rw [if_neg (by omega)]
        rw [ec, hg a e3 e1 e2]
        unfold cz_H
        by_cases c0 : G.cd a = 0
        · rw [if_pos c0, if_pos c0]
        · rw [if_neg c0, if_neg c0]
          refine (hcell _ (fun q => e3 ((G.hF 3 (by decide) (by decide)).2 a q)) (fun q => hn _ q a rfl) c0).symm
/-- the ghost with a new bin -/
theorem cz_newB_W {b x : Int} (hb : 0 ≤ b ∧ b < 16) (hV : cz_V G) (ht : ¬ G.tb b = true) (hz : cz_Fr G z) (hW : cz_W G S) (hx : 1 ≤ x) : (cz_W (cz_ext G z.1 2 (32 + b.toNat) 16 (cz_tb G.tb b) G.ts hz.1 (by decide) (by omega)) (az_up S 3 b x) ∧ cz_V (cz_ext G z.1 2 (32 + b.toNat) 16 (cz_tb G.tb b) G.ts hz.1 (by decide) (by omega)) ∧ cz_Fr (cz_ext G z.1 2 (32 + b.toNat) 16 (cz_tb G.tb b) G.ts hz.1 (by decide) (by omega)) (z.1 + 2, z.2 + 25)) := by
  have hn : ∀ c, cz_isn 2 (32 + b.toNat) 16 c → ∀ a, G.cd a ≠ c := fun c hc a => by
    have q := hV.1 b hb.1 hb.2 ht a
    unfold cz_isn at hc
    rcases (show c = 32 + b.toNat ∨ c = 48 + b.toNat by omega) with e | e <;> rw [e]
    · exact q.1
    · exact q.2
  have ko : ∀ c, c ≠ 0 → ¬ cz_isn 2 (32 + b.toNat) 16 c → cz_ok G c → cz_ok (cz_ext G z.1 2 (32 + b.toNat) 16 (cz_tb G.tb b) G.ts hz.1 (by decide) (by omega)) c := fun c h0 h1 h2 => cz_e_o hz.1 (by decide) h0 h1 h2.1 h2.2
  have kn : ∀ c, cz_isn 2 (32 + b.toNat) 16 c → cz_ok (cz_ext G z.1 2 (32 + b.toNat) 16 (cz_tb G.tb b) G.ts hz.1 (by decide) (by omega)) c := fun c h1 => cz_e_n (by decide) hn h1
  obtain ⟨w1, w2, w3, w4, w5⟩ := hW
  refine ⟨⟨fun b1 b2 b3 b4 => ?_, fun b1 b2 b3 b4 => ?_, fun s s1 s2 s3 => ?_, fun s s1 s2 s3 => ?_, ?_⟩, ⟨fun b1 b2 b3 b4 a => ?_, fun s s1 s2 s3 j hj a => ?_, fun i hi => ?_, fun i hi => ?_⟩, ⟨fun a ha => ?_, hz.2⟩⟩
  · by_cases e : b1 = b
    · rw [e]
      exact ⟨hb, cz_tb_y, kn _ (by unfold cz_isn; omega), kn _ (by unfold cz_isn; omega)⟩
    · rw [az_up_en e] at b4
      obtain ⟨q1, q2, q3, q4⟩ := w1 b1 b2 b3 b4
      exact ⟨q1, by show cz_tb G.tb b b1 = true; rw [cz_tb_n e]; exact q2, ko _ (by omega) (by unfold cz_isn; omega) q3, ko _ (by omega) (by unfold cz_isn; omega) q4⟩
  · by_cases e : b1 = b
    · rw [e, az_up_ee] at b4
      omega
    · rw [az_up_en e] at b4
      show ¬ cz_tb G.tb b b1 = true
      rw [cz_tb_n e]
      exact w2 b1 b2 b3 b4
  · rw [az_up_kn (by decide)] at s3
    obtain ⟨q1, q2, q3⟩ := w3 s s1 s2 s3
    exact ⟨q1, q2, fun j hj => ko _ (by omega) (by unfold cz_isn; omega) (q3 j hj)⟩
  · rw [az_up_kn (by decide)] at s3
    exact w4 s s1 s2 s3
  · rw [az_up_kn (by decide)]
    exact w5
  · have b4 : ¬ cz_tb G.tb b b1 = true := b4
    have e : b1 ≠ b := fun q => b4 (by rw [q]; exact cz_tb_y)
    rw [cz_tb_n e] at b4
    have q := hV.1 b1 b2 b3 b4 a
    show cz_ecd G z.1 2 (32 + b.toNat) 16 a ≠ _ ∧ cz_ecd G z.1 2 (32 + b.toNat) 16 a ≠ _
    unfold cz_ecd
    split
    · omega
    · exact q
  · have q := hV.2.1 s s1 s2 s3 j hj a
    show cz_ecd G z.1 2 (32 + b.toNat) 16 a ≠ _
    unfold cz_ecd
    split
    · omega
    · exact q
  · have hi : cz_tb G.tb b i = true := hi
    by_cases e : i = b
    · rw [e]; exact hb
    · rw [cz_tb_n e] at hi
      exact hV.2.2.1 i hi
  · exact hV.2.2.2 i hi
  · show cz_ecd G z.1 2 (32 + b.toNat) 16 a = 0
    have ha : z.1 + 2 ≤ a := ha
    unfold cz_ecd
    rw [if_neg (by omega), hz.1 a (by omega)]
end CmCL
