-- deps: 30.mK 31.mL 32.mM 34.mN 37.mQ 38.mR 39.mS 43.cls 44.sta 44.stb 44.stc 44.std 45.cA 46.cB 47.cC 48.cD 49.cE 50.cF 54.cI 55.cJ 58.cM 59.cN 43.raw 51.cG 53.cH 56.cK 57.cL 52.cG2 60.cO 61.cP 62.cQ 64.iA 65.iB 66.iC 67.iD 68.iE 69.iF 70.iG 72.iI 73.iJ 34.mN2 34.mN3 35.mO 36.mP 33.mM2
section IvK
variable {n r : Nat} {G : cz_G} {S S1 : az_M} {loc : Int → Int} {D F : Nat} {s b l : Int} {f : Nat → az_C} {z : Nat × Nat}
theorem PUT_R (h : Inv S loc D F) (h1 : 0 ≤ s) (h2 : s < 12) (c : S 7 s = 1) (m : S 18 s = 2) (hc : sp_canPut S s) : az_ex az_T (n + 2) 169 [.ref r, .int (Int32.ofInt s)] (az_RH r S f, z) none (az_RH r (su_put S s) f, z) := by
  have g33 := h.a.g33
  have ou := (h.l.li s h1 h2 c).2
  have pt := (h.pt s h1 h2 c m).2
  have pr := iv_pt_parts pt ou
  have eq := sp_putF_eq pt ou.1.2
  have e : az_RH r (sp_put S s) f = az_RH r (su_put S s) f := az_RH_cg (fun k hk i => by
    unfold sp_put su_put su_e
    rw [eq]
    unfold sq_fill
    rw [az_up_kn (k := 109) (by omega), az_up_kn (k := 109) (by omega), az_up_kn (k := 109) (by omega), az_up_kn (k := 108) (by omega)])
  rw [← e]
  have bn := h.bins
  obtain ⟨⟨p1, p2⟩, p3, p4, p5, p6, p7, p8, p9, p10, p11, p12⟩ := id pt
  have lot := h.lot p1.1 p1.2 (by omega)
  have l34 := lot.2.1
  have n9 := h.n109 s h1 h2 (by omega)
  have og := lot.og
  have hi : ∀ o, 0 ≤ o → o ≤ 2 → 0 ≤ sp_hi S (S 21 s) o ∧ sp_hi S (S 21 s) o ≤ 9 := fun o o1 o2 => by
    have := lot.2.2.1
    unfold sp_hi
    split <;> omega
  have hp : iv_put S s (S 21 s) 0 := by
    refine ⟨by have := pr.1; omega, fun j j1 j2 => ?_, fun b b1 b2 => by have := (bn b b1 b2).2; omega, ?_, by have := lot.2.2.2.1; omega, fun k k1 k2 => by have := og k k1 k2; omega⟩
    · have q := pr.2 j j1 j2
      have r24 : ∀ x y : Int, S 24 (3 * s + j) = x → S 25 (3 * s + j) = y → (0 ≤ x ∧ x < 1073741824) → (0 ≤ y ∧ y ≤ 9) → (-9223372036854775808 ≤ S 24 (3 * s + j) ∧ S 24 (3 * s + j) < 9223372036854775808) ∧ (-2147483648 ≤ S 25 (3 * s + j) ∧ S 25 (3 * s + j) < 2147483648) := fun x y a b c d => by omega
      refine ⟨q.1, q.2, ?_⟩
      have := pr.1
      rcases (show j = 0 ∨ j = 1 ∨ j = 2 by omega) with rfl | rfl | rfl
      · exact r24 (S 34 (S 21 s)) (S 35 (S 21 s)) (by rw [Int.add_zero]; exact p7) (by rw [Int.add_zero]; exact p8) (by omega) (by have := lot.2.2.1; omega)
      · rcases p12 with ⟨k1, k2, k3⟩ | ⟨k1, k2, k3, k4⟩ | ⟨k1, k2, k3, k4⟩ | ⟨k1, k2, k3, k4, k5⟩
        · omega
        · exact r24 _ _ k4.2.1 k4.2.2.1 (by omega) (hi 1 (by decide) (by decide))
        · exact r24 _ _ k4.2.1 k4.2.2.1 (by omega) (hi 2 (by decide) (by decide))
        · exact r24 _ _ k4.2.1 k4.2.2.1 (by omega) (hi 1 (by decide) (by decide))
      · rcases p12 with ⟨k1, k2, k3⟩ | ⟨k1, k2, k3, k4⟩ | ⟨k1, k2, k3, k4⟩ | ⟨k1, k2, k3, k4, k5⟩
        · omega
        · omega
        · omega
        · exact r24 _ _ k5.2.1 k5.2.2.1 (by omega) (hi 2 (by decide) (by decide))
    · rw [if_pos rfl]
      have := hc.2
      have := pr.1
      omega
  exact cm_put s ⟨h1, h2⟩ pr.1.1 (by omega) hp
theorem PUT_C (h : Inv S loc D F) (hW : cz_W G S) (hz : cz_Fr G z) (h1 : 0 ≤ s) (h2 : s < 12) (c : S 7 s = 1) (m : S 18 s = 2) (hc : sq_canPut S s) : ∃ (G' : cz_G) (f' : Nat → az_C) (z' : Nat × Nat), cz_X G f z G' f' z' ∧ cz_W G' (su_put S s) ∧ ∀ n, az_ex az_T (n + 6) 66 [.ref (G.ad 17), .ref (cz_as G s 0)] (cz_H G S f, z) none (cz_H G' (su_put S s) f', z') := by
  have g33 := h.a.g33
  have ou := (h.l.li s h1 h2 c).2
  have pp := h.pt s h1 h2 c m
  have pt := pp.2
  have bn := h.bins
  obtain ⟨⟨p1, p2⟩, p3, p4, p5, p6, p7, p8, p9, p10, p11, p12⟩ := id pt
  have fl := h.z.lo _ p1.1 p1.2
  have hs : cz_S G s := hW.2.2.1 s h1 h2 c
  have ts0 : ∀ g : Int → Int, sp_sum g (S 13 s).toNat = sp_ts g (S 13 s).toNat 0 := fun g => by
    have := sp_ts_eq g (S 13 s).toNat 0
    rw [Nat.zero_add] at this
    show _ = sp_ts g (S 13 s).toNat ((0 : Nat) : Int)
    rw [this]
    show (0 : Int) + _ = _
    omega
  have hp : iw_put S s (S 13 s).toNat 0 := by
    refine ⟨h.z.zl, p1, fl.2.1, fl.2.2.1, ?_, ou, h.ld s h1 h2, fun b b1 b2 => (bn b b1 b2).2.1, fun o x1 x2 x3 => ?_⟩
    · have q := hc.1
      have t3 := sp_ts_3 (g := sq_nr S s) ou.1 (by unfold sq_nr; refine ⟨?_, ?_, ?_⟩ <;> split <;> omega)
      have e : sq_nr S s 0 + sq_nr S s 1 + sq_nr S s 2 = sq_newLots S s := by
        unfold sq_nr sq_newLots
        rw [Int.add_zero]
      omega
    · have q := hc.2 o x1 x2
      have nf : ¬ sq_full S s o := fun w => q ⟨x3, w⟩
      unfold sq_full sq_lw at nf
      rw [ts0] at nf
      have o3 := (ou.2 o x1 x2).1
      have := h.b.b3 _ o3.1 o3.2
      omega
  obtain ⟨G', f', z', hX, hW', hm⟩ := ex_putY (f := f) hs hW hz m ou (h.ld s h1 h2) bn hc hp (fun o _ _ x3 x4 => by
    rcases x4.2 with q | q
    · exact absurd q x3
    · exact q)
  have k := fun (k : Nat) (j : Int) (a : k ≠ 34 ∧ k ≠ 35 ∧ k ≠ 36 ∧ k ≠ 33 ∧ k ≠ 37 ∧ k ≠ 4 ∧ k ≠ 5) => sq_putF_13 (s := s) (S 13 s).toNat 0 S k j a.1 a.2.1 a.2.2.1 a.2.2.2.1 a.2.2.2.2.1 a.2.2.2.2.2.1 a.2.2.2.2.2.2
  have k22 := k 22 s (by decide)
  have k19 := k 19 s (by decide)
  have vis : ∀ kk i, cz_ow kk i ≠ 0 → sq_put S s kk i = su_put S s kk i := fun kk i hk => by
    unfold sq_put su_put su_e sq_clear
    generalize sq_putF s (S 13 s).toNat 0 S = X at k22 k19 ⊢
    have n20 : kk ≠ 20 := fun q => hk (by rw [q]; rfl)
    have n23 : kk ≠ 23 := fun q => hk (by rw [q]; rfl)
    unfold sq_fill
    by_cases e9 : kk = 109
    · subst e9
      simp (disch := decide) only [az_up_kn]
      simp only [az_up_at]
      simp (disch := decide) only [az_up_kn]
    · by_cases e8 : kk = 108
      · subst e8
        simp (disch := decide) only [az_up_kn, az_up_at]
      · by_cases e1 : kk = 21
        · subst e1
          simp (disch := decide) only [az_up_kn, az_up_at]
        · by_cases e2 : kk = 22
          · subst e2
            simp (disch := decide) only [az_up_kn, az_up_at]
            split
            · rename_i e; rw [e, k22, p3]
            · rfl
          · by_cases e3 : kk = 18
            · subst e3
              simp (disch := decide) only [az_up_kn, az_up_at]
            · by_cases e4 : kk = 19
              · subst e4
                simp (disch := decide) only [az_up_kn, az_up_at]
                split
                · rename_i e; rw [e, k19, pp.1]
                · rfl
              · simp (disch := assumption) only [az_up_kn]
  refine ⟨G', f', z', hX, ?_, fun n => ?_⟩
  · exact cz_W_cg hW' (fun b => (vis 3 b (by show 32 + b.toNat ≠ 0; omega)).symm) (fun b => by
      unfold sq_put su_put su_e sq_clear sq_fill
      simp (disch := decide) only [az_up_kn]) ((vis 33 0 (by decide)).symm)
  · have e : cz_H G' (su_put S s) f' = cz_H G' (sq_put S s) f' := cz_H_cg (fun kk i hk => (vis kk i hk).symm)
    rw [e]
    exact hm n
end IvK
