-- deps: 30.mK 31.mL 32.mM 34.mN 37.mQ 38.mR 39.mS 40.mT 41.mU 42.mV 43.cls 44.sta 44.stb 44.stc 44.std 45.cA 46.cB 47.cC 48.cD 49.cE 50.cF 54.cI 55.cJ 58.cM 59.cN 43.raw 51.cG 53.cH 56.cK 57.cL 52.cG2 60.cO 61.cP 62.cQ 64.iA 65.iB 66.iC 67.iD 68.iE 69.iF 70.iG 34.mN2 34.mN3 35.mO 36.mP 33.mM2 99.sA 99.sB
/-! ===== the public calls, both sides: feed, bin, stage ===== -/
section PbD
variable {S S' : az_M} {loc : Int → Int} {D F : Nat} {s t : Int}
theorem P_feed (h : Inv S loc D F) (hF : F + 1 ≤ 512) (b g gr d o : Int) (hb : i32 b) (hg : i32 g) (hgr : i32 gr) (hd : i32 d) (ho : i32 o) : ∃ (S' : az_M) (loc' : Int → Int) (F' : Nat) (v : Int), Inv S' loc' D F' ∧ F' ≤ F + 1 ∧ S' 0 0 = S 0 0 ∧ (∀ (n r : Nat) (f : Nat → az_C) (z : Nat × Nat), az_ex az_T (n + 8) 147 [.ref r, .int (Int32.ofInt b), .int (Int32.ofInt g), .int (Int32.ofInt gr), .int (Int32.ofInt d), .int (Int32.ofInt o)] (az_RH r S f, z) (some (.int (Int32.ofInt v))) (az_RH r S' f, z)) ∧ (∀ (G : cz_G) (f : Nat → az_C) (z : Nat × Nat), cz_W G S → cz_Fr G z → ∃ (G' : cz_G) (f' : Nat → az_C) (z' : Nat × Nat), cz_X G f z G' f' z' ∧ cz_W G' S' ∧ (S 0 0 = 0 → G' = G) ∧ ∀ n, az_ex az_T (n + 8) 115 [.ref (G.ad 1), .int (Int32.ofInt b), .int (Int32.ofInt g), .int (Int32.ofInt gr), .int (Int32.ofInt d), .int (Int32.ofInt o)] (cz_H G S f, z) (some (.int (Int32.ofInt v))) (cz_H G' S' f', z')) := by
  have g33 := h.a.g33
  by_cases c : sp_feedC S b g gr d o
  · have k : ∀ (k : Nat) (i : Int), k = 0 ∨ k = 3 ∨ k = 7 → sp_feedU S b g gr d o k i = S k i := fun k i q => by
      unfold sp_feedU sp_puts sp_new
      rcases q with rfl | rfl | rfl <;> simp (disch := decide) only [az_up_kn]
    have k33 : sp_feedU S b g gr d o 33 0 = S 33 0 + 1 := by
      unfold sp_feedU
      exact az_up_ee
    refine ⟨_, _, F + 1, S 33 0, h.feed hF c, Nat.le_refl _, k 0 _ (by decide), fun n _ _ _ => cm_feedY (n := n + 5) b g gr d o hb h.bins g33 c, fun G f z hW hz => ?_⟩
    obtain ⟨G', f', z', x1, x2, x3, x4⟩ := ex_feed (f := f) b g gr d o hW hz h.bins h.b.r5 h.z.zl hb c
    refine ⟨G', f', z', x1, ?_, fun q => by have := c.1; omega, fun n => x4 (n + 3)⟩
    obtain ⟨w1, w2, w3, w4, w5⟩ := hW
    obtain ⟨-, t1, t2, -, -, b1, s1, -⟩ := x1
    refine ⟨fun b a1 a2 a3 => ?_, fun b a1 a2 a3 => ?_, fun s a1 a2 a3 => ?_, fun s a1 a2 a3 => ?_, ?_⟩
    · rw [k 3 _ (by decide)] at a3
      exact b1 b (w1 b a1 a2 a3)
    · rw [k 3 _ (by decide)] at a3
      rw [t1]
      exact w2 b a1 a2 a3
    · rw [k 7 _ (by decide)] at a3
      exact s1 s (w3 s a1 a2 a3)
    · rw [k 7 _ (by decide)] at a3
      rw [t2]
      exact w4 s a1 a2 a3
    · rw [k33]
      omega
  · exact ⟨S, loc, F, -1, h, by omega, rfl, fun n _ _ _ => cm_feedN (n := n + 5) b g gr d o hb hg hgr hd ho h.a.g0 h.a.g1 h.bins g33 c, fun G f z hW hz => ⟨G, f, z, cz_X_rfl hz, hW, fun _ => rfl, fun n => cm_cfeedN (n := n + 3) b g gr d o hb hg hgr hd ho h.a.g0 h.a.g1 hW h.bins c⟩⟩
theorem P_bin (h : Inv S loc D F) (b x : Int) (hb : i32 b) (hx : i32 x) : ∃ (S' : az_M) (v : Int), Inv S' loc D F ∧ S' 0 0 = S 0 0 ∧ (∀ (n r : Nat) (f : Nat → az_C) (z : Nat × Nat), az_ex az_T (n + 8) 137 [.ref r, .int (Int32.ofInt b), .int (Int32.ofInt x)] (az_RH r S f, z) (some (.int (Int32.ofInt v))) (az_RH r S' f, z)) ∧ (∀ (G : cz_G) (f : Nat → az_C) (z : Nat × Nat), cz_W G S → (S 0 0 = 0 → cz_V G) → cz_Fr G z → ∃ (G' : cz_G) (z' : Nat × Nat), cz_W G' S' ∧ (S 0 0 = 0 → cz_V G') ∧ cz_Fr G' z' ∧ ((G' = G ∧ z' = z) ∨ (cz_Y G z G' z' ∧ z' = (z.1 + 2, z.2 + 25) ∧ sp_binC S b x ∧ S' = az_up S 3 b x)) ∧ ∀ n, az_ex az_T (n + 8) 110 [.ref (G.ad 1), .int (Int32.ofInt b), .int (Int32.ofInt x)] (cz_H G S f, z) (some (.int (Int32.ofInt v))) (cz_H G' S' f, z')) := by
  have rr := fun (n r : Nat) (f : Nat → az_C) (z : Nat × Nat) => cm_bin (n := n + 6) (r := r) (f := f) (z := z) (S := S) b x hb hx h.a.g0 h.b.b3
  unfold sp_bin at rr
  by_cases c : sp_binC S b x
  · have c' : S 0 0 = 0 ∧ (0 ≤ b ∧ b ≤ 15) ∧ (1 ≤ x ∧ x ≤ 20) ∧ S 3 b ≤ 0 := c
    rw [if_pos c', if_pos c'] at rr
    refine ⟨az_up S 3 b x, 1, h.bin c, az_up_kn (by decide), rr, fun G f z hW hV hz => ?_⟩
    have z0 := h.b.b1 c.1 b (by omega) (by omega)
    obtain ⟨G', q1, q2, q3, q4, q5⟩ := ex_binY (f := f) b x hW (hV c.1) hz ⟨z0.1, z0.2, fun i i1 i2 => h.b.b0 c.1 i (by omega) (by omega)⟩ c
    exact ⟨G', _, q3, fun _ => q4, q5, Or.inr ⟨q2, rfl, c, rfl⟩, fun n => q1 (n + 5)⟩
  · have c' : ¬ (S 0 0 = 0 ∧ (0 ≤ b ∧ b ≤ 15) ∧ (1 ≤ x ∧ x ≤ 20) ∧ S 3 b ≤ 0) := c
    rw [if_neg c', if_neg c'] at rr
    exact ⟨S, 0, h, rfl, rr, fun G f z hW hV hz => ⟨G, z, hW, hV, hz, Or.inl ⟨rfl, rfl⟩, fun n => cm_cbinN (n := n + 5) b x hb hx h.a.g0 hW c⟩⟩
theorem P_stage (h : Inv S loc D F) (s k x m : Int) (hs : i32 s) (hk : i32 k) (hx : i32 x) (hm : i32 m) : ∃ (S' : az_M) (v : Int), Inv S' loc D F ∧ S' 0 0 = S 0 0 ∧ (∀ (n r : Nat) (f : Nat → az_C) (z : Nat × Nat), az_ex az_T (n + 8) 139 [.ref r, .int (Int32.ofInt s), .int (Int32.ofInt k), .int (Int32.ofInt x), .int (Int32.ofInt m)] (az_RH r S f, z) (some (.int (Int32.ofInt v))) (az_RH r S' f, z)) ∧ (∀ (G : cz_G) (f : Nat → az_C) (z : Nat × Nat), cz_W G S → (S 0 0 = 0 → cz_V G) → cz_Fr G z → ∃ (G' : cz_G) (z' : Nat × Nat), cz_W G' S' ∧ (S 0 0 = 0 → cz_V G') ∧ cz_Fr G' z' ∧ ((G' = G ∧ z' = z) ∨ (cz_Y G z G' z' ∧ z' = (z.1 + 8, z.2 + 48) ∧ sp_stageC S s k x m ∧ S' = az_up (sp_stageU S s k x m) 100 0 (S 100 0 + 1))) ∧ ∀ n, az_ex az_T (n + 8) 111 [.ref (G.ad 1), .int (Int32.ofInt s), .int (Int32.ofInt k), .int (Int32.ofInt x), .int (Int32.ofInt m)] (cz_H G S f, z) (some (.int (Int32.ofInt v))) (cz_H G' S' f, z')) := by
  have tn := h.l.tn
  have sb := sp_sum_b (g := S 7) (B := 1) 12 (fun i a b => h.l.s7 i a b)
  by_cases c : sp_stageC S s k x m
  · have e : ∀ (r : Nat) (f : Nat → az_C), az_RH r (az_up (sp_stageU S s k x m) 100 0 (S 100 0 + 1)) f = az_RH r (sp_stageU S s k x m) f := fun r f => az_RH_cg (fun k hk i => az_up_kn (by omega))
    refine ⟨az_up (sp_stageU S s k x m) 100 0 (S 100 0 + 1), 1, h.stage hx c, ?_, fun n r f z => ?_, fun G f z hW hV hz => ?_⟩
    · unfold sp_stageU
      simp (disch := decide) only [az_up_kn]
    · rw [e]
      exact cm_stage (n := n + 5) s k x m hs hk hx hm h.a.g0 h.l.s7 1 _ (Or.inl ⟨rfl, rfl, c⟩)
    · obtain ⟨c0, c1, c7, -⟩ := id c
      have s1 : 0 ≤ s := c1.1
      have s2 : s < 12 := by omega
      obtain ⟨u1, u2, u3, u4, u5, u6⟩ := h.l.un s s1 s2 c7
      obtain ⟨m1, m2, ⟨e1, e2, e3, e4, e5, e6, e7, e8⟩, m3, m4, m5, m6, m7⟩ := h.m.mu s s1 s2 c7
      have s0 : iv_s0 S s := by
        refine ⟨⟨u2, u3, u4, m1, m2, m3, m4, m5, m6, m7⟩, ⟨e1, e2, e5⟩, u5, fun i i1 i2 => ?_, fun i i1 i2 => ?_⟩
        · have w := u6 i i1 i2
          refine ⟨w.1, w.2.1, w.2.2, ?_⟩
          rcases (show i = 3 * s ∨ i = 3 * s + 1 ∨ i = 3 * s + 2 by omega) with q | q | q
          · rw [q]; exact e6
          · rw [q]; exact e7
          · rw [q]; exact e8
        · have w := (h.m.le s (i - 10 * s) s1 s2 (by omega) (by omega)).2 c7
          rw [show 10 * s + (i - 10 * s) = i by omega] at w
          exact w
      obtain ⟨G', q1, q2, q3, q4, q5⟩ := ex_stageY (f := f) s k x m hx hW (hV c0) hz s0 (by omega) c
      exact ⟨G', _, q3, fun _ => q4, q5, Or.inr ⟨q2, rfl, c, rfl⟩, fun n => q1 (n + 4)⟩
  · exact ⟨S, 0, h, rfl, fun n r f z => cm_stage (n := n + 5) s k x m hs hk hx hm h.a.g0 h.l.s7 0 _ (Or.inr ⟨rfl, rfl, c⟩), fun G f z hW hV hz => ⟨G, z, hW, hV, hz, Or.inl ⟨rfl, rfl⟩, fun n => cm_cstageN (n := n + 4) s k x m hs hk hx hm h.a.g0 h.l.s7 hW c⟩⟩
end PbD
