-- deps: 30.mK 31.mL 32.mM 34.mN 37.mQ 38.mR 39.mS 40.mT 41.mU 42.mV 43.cls 44.sta 44.stb 44.stc 44.std 45.cA 46.cB 47.cC 48.cD 49.cE 50.cF 54.cI 55.cJ 58.cM 59.cN 43.raw 51.cG 53.cH 56.cK 57.cL 52.cG2 60.cO 61.cP 62.cQ 64.iA 65.iB 66.iC 67.iD 68.iE 69.iF 70.iG 34.mN2 34.mN3 35.mO 36.mP 33.mM2 90.rA 91.rB 92.rC 93.rD 94.rE 95.rF 96.rG 97.rH 98.rI
/-! ===== ring: both sides ===== -/
section RgK
variable {S S' : az_M} {loc : Int → Int} {D F : Nat} {s t : Int}
theorem Inv.cgR (h : Inv S loc D F) (K : ∀ k i, k ≠ 54 ∧ k ≠ 103 ∧ k ≠ 104 ∧ k ≠ 105 ∧ k ≠ 106 → S' k i = S k i) : Inv S' loc D F := by
  refine ⟨iA_cg h.a (fun k i q => K k i (by omega)), iZ_cg h.z (fun k i q => K k i (by omega)), iB_cg h.b (fun k i q => K k i (by omega)), iL_cg h.l (fun k i q => K k i (by omega)), ?_, iP_cg h.p (fun k i q => K k i (by omega)), iQ_cg h.q (fun k i q => K k i (by omega))⟩
  refine ⟨fun x x1 x2 x3 => ?_, fun q => ?_, fun x x1 x2 x3 => ?_, fun x g x1 x2 x3 x4 => ?_⟩
  · rw [K 7 _ (by decide)] at x3
    rw [K 18 _ (by decide), K 19 _ (by decide)]
    exact iv_md_cg (h.m.md x x1 x2 x3) (fun k i q => K k i (by omega))
  · rw [K 0 _ (by decide)] at q
    simp only [K 18 _ (by decide)]
    exact h.m.m0 q
  · rw [K 7 _ (by decide)] at x3
    have q := h.m.mu x x1 x2 x3
    rw [K 18 _ (by decide), K 19 _ (by decide), K 28 _ (by decide), K 32 _ (by decide), K 29 _ (by decide), K 30 _ (by decide), K 31 _ (by decide)]
    exact ⟨q.1, q.2.1, iv_e_cg q.2.2.1 (fun k1 i w => K k1 i (by omega)), q.2.2.2⟩
  · rw [K 27 _ (by decide), K 7 _ (by decide)]; exact h.m.le x g x1 x2 x3 x4
theorem Inv.irg (h : Inv S loc D F) : iw_rg S := ⟨h.bins, fun s s1 s2 c => ⟨(h.l.li s s1 s2 c).2, h.ld s s1 s2, h.ins s s1 s2, h.m18 s s1 s2⟩⟩
theorem Inv.leads (h : Inv S loc D F) (s1 : 0 ≤ s) (s2 : s < 12) : sq_leads S s t ↔ sp_leads S s t := by
  unfold sq_leads sp_leads puP tkP
  by_cases c : S 7 s = 1 ∧ S 18 s = 2
  · have pt := (h.pt s s1 s2 c.1 c.2).2
    have ou := (h.l.li s s1 s2 c.1).2
    constructor
    · rintro ⟨a1, a2, o, o1, o2, w, fu, b1, b2, b3⟩
      obtain ⟨i, i1, i2, i3⟩ := (iv_pt_w pt ou o o1 o2).mp w
      exact ⟨a1, b1, a2, b2, i, i1, i2, (iv_pt_full pt ou i o i3).mpr fu, by rw [i3]; exact b3⟩
    · rintro ⟨a1, b1, a2, b2, i, i1, i2, fu, b3⟩
      have r : 0 ≤ S 26 (3 * s + i) ∧ S 26 (3 * s + i) < S 13 s := by
        obtain ⟨⟨p1, p2⟩, p3, p4, p5, p6, p7, p8, p9, p10, p11, p12⟩ := id pt
        have i3 : i ≤ 2 := by
          rcases p12 with ⟨_, _, k⟩ | ⟨_, _, k, _⟩ | ⟨_, _, k, _⟩ | ⟨_, _, k, _⟩ <;> omega
        rcases (show i = 0 ∨ i = 1 ∨ i = 2 by omega) with rfl | rfl | rfl
        · rw [Int.add_zero, p6]; exact p5
        · rcases p12 with ⟨_, _, k⟩ | ⟨_, _, k, k2⟩ | ⟨_, _, k, k2⟩ | ⟨_, _, k, k2, k3⟩
          · omega
          · have := k2.1; have := k2.2.2.2; omega
          · have := k2.1; have := k2.2.2.2; omega
          · have := k2.1; have := k2.2.2.2; omega
        · rcases p12 with ⟨_, _, k⟩ | ⟨_, _, k, k2⟩ | ⟨_, _, k, k2⟩ | ⟨_, _, k, k2, k3⟩
          · omega
          · omega
          · omega
          · have := k3.1; have := k3.2.2.2; omega
      exact ⟨a1, a2, S 26 (3 * s + i), r.1, r.2, (iv_pt_w pt ou _ r.1 r.2).mpr ⟨i, i1, i2, rfl⟩, (iv_pt_full pt ou i _ rfl).mp fu, b1, b2, b3⟩
  · constructor
    · intro q; exact absurd ⟨q.1, q.2.1⟩ c
    · intro q; exact absurd ⟨q.1, q.2.2.1⟩ c
/-- ring(i) -/
theorem RING (h : Inv S loc D F) (i : Int) (hi : -2147483648 ≤ i ∧ i < 2147483648) : ∃ (S' : az_M) (v : Int), Inv S' loc D F ∧ S' 0 0 = S 0 0 ∧ (∀ (n r : Nat) (f : Nat → az_C) (z : Nat × Nat), az_ex az_T (n + 5) 188 [.ref r, .int (Int32.ofInt i)] (az_RH r S f, z) (some (.int (Int32.ofInt v))) (az_RH r S' f, z)) ∧ (∀ (G : cz_G) (f : Nat → az_C) (z : Nat × Nat), cz_W G S → cz_W G S' ∧ ∀ n, az_ex az_T (n + 6) 130 [.ref (G.ad 1), .int (Int32.ofInt i)] (cz_H G S f, z) (some (.int (Int32.ofInt v))) (cz_H G S' f, z)) := by
  obtain ⟨S2, k2, c2⟩ := RING_C h.irg i hi
  have ev : sq_ring S i = sp_ring S i := rg_eq (fun s t a b _ _ => h.leads a b)
  rw [ev] at c2
  generalize hX : (fun (k : Nat) (j : Int) => if k = 103 ∨ k = 104 ∨ k = 105 ∨ k = 106 then S2 k j else sp_far S (sp_ringF S i) k j) = X
  have X1 : ∀ (k : Nat) (j : Int), k ≠ 54 ∧ k ≠ 103 ∧ k ≠ 104 ∧ k ≠ 105 ∧ k ≠ 106 → X k j = S k j := fun k j q => by
    rw [← hX]
    show (if k = 103 ∨ k = 104 ∨ k = 105 ∨ k = 106 then S2 k j else sp_far S (sp_ringF S i) k j) = _
    rw [if_neg (by omega), sp_far_k q.1]
  refine ⟨X, sp_ring S i, h.cgR X1, X1 0 _ (by decide), fun n r f z => ?_, fun G f z hW => ⟨cz_W_cg hW (fun _ => X1 3 _ (by decide)) (fun _ => X1 7 _ (by decide)) (X1 33 _ (by decide)), fun n => ?_⟩⟩
  · have e : az_RH r X f = az_RH r (sp_far S (sp_ringF S i)) f := az_RH_cg (fun k hk j => by
      rw [← hX]
      show (if k = 103 ∨ k = 104 ∨ k = 105 ∨ k = 106 then S2 k j else sp_far S (sp_ringF S i) k j) = _
      rw [if_neg (by omega)])
    rw [e]
    exact cm_ring i hi h.rg
  · have e : cz_H G X f = cz_H G S2 f := cz_H_cg (fun k j hv => by
      by_cases c : k = 103 ∨ k = 104 ∨ k = 105 ∨ k = 106
      · rw [← hX]
        show (if k = 103 ∨ k = 104 ∨ k = 105 ∨ k = 106 then S2 k j else sp_far S (sp_ringF S i) k j) = _
        rw [if_pos c]
      · have n54 : k ≠ 54 := fun q => hv (by rw [q]; rfl)
        rw [X1 k j (by omega), k2 k j (by omega)])
    rw [e]
    exact c2 G n f z hW
end RgK
