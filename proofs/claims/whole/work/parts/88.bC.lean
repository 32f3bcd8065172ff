-- deps: 30.mK 31.mL 32.mM 34.mN 37.mQ 38.mR 39.mS 43.cls 44.sta 44.stb 44.stc 44.std 45.cA 46.cB 47.cC 48.cD 49.cE 50.cF 54.cI 55.cJ 58.cM 59.cN 43.raw 51.cG 53.cH 56.cK 57.cL 52.cG2 60.cO 61.cP 62.cQ 64.iA 65.iB 66.iC 67.iD 68.iE 69.iF 70.iG 71.iH 72.iI 73.iJ 74.iK 75.iL 76.iM 77.iN 79.iR 80.iS 81.iT 82.iU 83.iV 84.iW 85.iX 86.bA 87.bB 34.mN2 34.mN3 35.mO 36.mP 33.mM2
/-! ===== one beat: both sides ===== -/
section BtC
variable {S U : az_M} {loc loc' : Int → Int} {D D' F : Nat}
theorem BT1 : ∀ (m : Nat) (S : az_M) (loc : Int → Int) (D : Nat), m ≤ 12 → Inv S loc D F → S 0 0 = 1 → (∀ t : Int, 0 ≤ t → t < m → S 28 t < S 2 0) → ∃ S' loc' D', Inv S' loc' D' F ∧ su_fr S S' ∧ (∀ (n r : Nat) (f : Nat → az_C) (z : Nat × Nat) (Q : Option Value → az_H → Prop) (lv : az_L), lv 0 = some (.ref r) → lv 1 = some (.int (Int32.ofInt ((m : Int) + -1))) → (∀ lv : az_L, lv 0 = some (.ref r) → lv 1 = some (.int (Int32.ofInt 11)) → az_p173 (az_ex az_T (n + 6)) Q (40, lv, [], (az_RH r S' f, z))) → az_p173 (az_ex az_T (n + 6)) Q (13, lv, [], (az_RH r S f, z))) ∧ (∀ (G : cz_G), cz_W G S → cz_W G S' ∧ ∀ (n : Nat) (f : Nat → az_C) (z : Nat × Nat) (Q : Option Value → az_H → Prop) (lv : az_L), lv 0 = some (.ref (G.ad 17)) → lv 1 = some (.int (Int32.ofInt ((m : Int) + -1))) → (∀ lv : az_L, lv 0 = some (.ref (G.ad 17)) → lv 1 = some (.int (Int32.ofInt 11)) → az_p62 (az_ex az_T (n + 6)) Q (51, lv, [], (cz_H G S' f, z))) → az_p62 (az_ex az_T (n + 6)) Q (13, lv, [], (cz_H G S f, z)))
  | 0, S, loc, D, _, h, _, _ => ⟨S, loc, D, h, su_fr_rfl, fun n r f z Q lv l0 l1 kn => b1_e l0 l1 kn, fun G hW => ⟨hW, fun n f z Q lv l0 l1 kn => c1_e l0 l1 kn⟩⟩
  | m + 1, S, loc, D, hm, h, h0, hb => by
    have hi : (0 : Int) ≤ m ∧ (m : Int) < 12 := by omega
    have e1 : ((m + 1 : Nat) : Int) + -1 = m := by omega
    have s7 := h.l.s7 m hi.1 hi.2
    have st : ∃ S1 loc1 D1, Inv S1 loc1 D1 F ∧ su_fr S S1 ∧ (∀ t : Int, t ≠ m → S1 28 t = S 28 t) ∧ (S 7 m = 1 → ∀ (n r : Nat) (f : Nat → az_C) (z : Nat × Nat), az_ex az_T (n + 6) 171 [.ref r, .int (Int32.ofInt m)] (az_RH r S f, z) none (az_RH r S1 f, z)) ∧ (¬ S 7 m = 1 → S1 = S) ∧ (∀ G, cz_W G S → cz_W G S1 ∧ (S 7 m = 1 → ∀ (f : Nat → az_C) (z : Nat × Nat), ((∀ n, az_ex az_T (n + 1) 95 [.ref (cz_as G m 0)] (cz_H G S f, z) (some (.int (Int32.ofInt 0))) (cz_H G S1 f, z)) ∨ ∃ S2, (∀ n, az_ex az_T (n + 1) 95 [.ref (cz_as G m 0)] (cz_H G S f, z) (some (.int (Int32.ofInt 1))) (cz_H G S2 f, z)) ∧ ∀ n, az_ex az_T (n + 6) 63 [.ref (G.ad 17), .ref (cz_as G m 0)] (cz_H G S2 f, z) none (cz_H G S1 f, z)))) := by
      by_cases c : S 7 m = 1
      · obtain ⟨S1, loc1, D1, iv, fr, k28, kr, kc⟩ := GO h h0 hi.1 hi.2 c (hb m hi.1 (by omega))
        exact ⟨S1, loc1, D1, iv, fr, k28, fun _ n r f z => kr n r f z, fun q => absurd c q, fun G hW => ⟨(kc G (fun _ => .inr (.inr (.inr (0, [])))) (0, 0) hW).1, fun _ f z => (kc G f z hW).2⟩⟩
      · exact ⟨S, loc, D, h, su_fr_rfl, fun _ _ => rfl, fun q => absurd q c, fun _ => rfl, fun G hW => ⟨hW, fun q => absurd q c⟩⟩
    obtain ⟨S1, loc1, D1, iv1, fr1, k28, kr, kn1, kc⟩ := st
    obtain ⟨S', loc', D', iv', fr', rr, cc⟩ := BT1 m S1 loc1 D1 (by omega) iv1 (by rw [fr1.1]; exact h0) (fun t t1 t2 => by rw [k28 t (by omega), fr1.2.1]; exact hb t t1 (by omega))
    refine ⟨S', loc', D', iv', su_fr_tr fr1 fr', fun n r f z Q lv l0 l1 kn => ?_, fun G hW => ?_⟩
    · rw [e1] at l1
      exact b1_s hi s7 l0 l1 (fun c K => az_mc_eq (kr c n r f z)) kn1 (fun lv a b => rr n r f z Q lv a b kn)
    · obtain ⟨hW1, kc⟩ := kc G hW
      obtain ⟨hW2, cc⟩ := cc G hW1
      refine ⟨hW2, fun n f z Q lv l0 l1 kn => ?_⟩
      rw [e1] at l1
      refine c1_s hW hi l0 l1 (fun c => ?_) kn1 (fun lv a b => cc n f z Q lv a b kn)
      rcases kc c f z with q | ⟨S2, q1, q2⟩
      · exact Or.inl (fun K => az_mc_eq (q (n + 5)))
      · exact Or.inr ⟨S2, fun K => az_mc_eq (q1 (n + 5)), fun K => az_mc_eq (q2 n)⟩
theorem BT2 : ∀ (m : Nat) (S : az_M) (loc : Int → Int), m ≤ 12 → Inv S loc D F → S 0 0 = 1 → ∃ S' loc', Inv S' loc' D F ∧ su_fr S S' ∧ (∀ (n r : Nat) (f : Nat → az_C) (z : Nat × Nat) (Q : Option Value → az_H → Prop) (lv : az_L), lv 0 = some (.ref r) → lv 1 = some (.int (Int32.ofInt ((m : Int) + -1))) → (∀ lv : az_L, lv 0 = some (.ref r) → lv 1 = some (.int (Int32.ofInt 11)) → az_p173 (az_ex az_T (n + 6)) Q (85, lv, [], (az_RH r S' f, z))) → az_p173 (az_ex az_T (n + 6)) Q (40, lv, [], (az_RH r S f, z))) ∧ (∀ (G : cz_G) (f : Nat → az_C) (z : Nat × Nat), cz_W G S → cz_Fr G z → ∃ (G' : cz_G) (f' : Nat → az_C) (z' : Nat × Nat), cz_X G f z G' f' z' ∧ cz_W G' S' ∧ ∀ (n : Nat) (Q : Option Value → az_H → Prop) (lv : az_L), lv 0 = some (.ref (G.ad 17)) → lv 1 = some (.int (Int32.ofInt ((m : Int) + -1))) → (∀ lv : az_L, lv 0 = some (.ref (G.ad 17)) → lv 1 = some (.int (Int32.ofInt 11)) → az_p62 (az_ex az_T (n + 6)) Q (76, lv, [], (cz_H G' S' f', z'))) → az_p62 (az_ex az_T (n + 6)) Q (51, lv, [], (cz_H G S f, z)))
  | 0, S, loc, _, h, _ => ⟨S, loc, h, su_fr_rfl, fun n r f z Q lv l0 l1 kn => b2_e l0 l1 kn, fun G f z hW hz => ⟨G, f, z, cz_X_rfl hz, hW, fun n Q lv l0 l1 kn => c2_e l0 l1 kn⟩⟩
  | m + 1, S, loc, hm, h, h0 => by
    have hi : (0 : Int) ≤ m ∧ (m : Int) < 12 := by omega
    have e1 : ((m + 1 : Nat) : Int) + -1 = m := by omega
    have s7 := h.l.s7 m hi.1 hi.2
    have g33 := h.a.g33
    have st : ∃ S1 loc1, Inv S1 loc1 D F ∧ su_fr S S1 ∧ (S 7 m = 1 → (S 18 m = 2 ∧ sp_canPut S m ∧ ∀ (n r : Nat) (f : Nat → az_C) (z : Nat × Nat), az_ex az_T (n + 2) 169 [.ref r, .int (Int32.ofInt m)] (az_RH r S f, z) none (az_RH r S1 f, z)) ∨ (¬ (S 18 m = 2 ∧ sp_canPut S m) ∧ S1 = S)) ∧ (¬ S 7 m = 1 → S1 = S) ∧ (∀ (G : cz_G) (f : Nat → az_C) (z : Nat × Nat), cz_W G S → cz_Fr G z → ∃ (G' : cz_G) (f' : Nat → az_C) (z' : Nat × Nat), cz_X G f z G' f' z' ∧ cz_W G' S1 ∧ (S 7 m = 1 → ∀ n, az_ex az_T (n + 6) 66 [.ref (G.ad 17), .ref (cz_as G m 0)] (cz_H G S f, z) none (cz_H G' S1 f', z')) ∧ (¬ S 7 m = 1 → (cz_H G' S1 f', z') = (cz_H G S f, z))) := by
      by_cases c : S 7 m = 1
      · obtain ⟨S1, loc1, iv, fr, kr, kc⟩ := PU h h0 hi.1 hi.2 c
        refine ⟨S1, loc1, iv, fr, fun _ => kr, fun q => absurd c q, fun G f z hW hz => ?_⟩
        obtain ⟨G', f', z', x1, x2, x3⟩ := kc G f z hW hz
        exact ⟨G', f', z', x1, x2, fun _ => x3, fun q => absurd c q⟩
      · exact ⟨S, loc, h, su_fr_rfl, fun q => absurd q c, fun _ => rfl, fun G f z hW hz => ⟨G, f, z, cz_X_rfl hz, hW, fun q => absurd q c, fun _ => rfl⟩⟩
    obtain ⟨S1, loc1, iv1, fr1, kr, kn1, kc⟩ := st
    obtain ⟨S', loc', iv', fr', rr, cc⟩ := BT2 m S1 loc1 (by omega) iv1 (by rw [fr1.1]; exact h0)
    refine ⟨S', loc', iv', su_fr_tr fr1 fr', fun n r f z Q lv l0 l1 kn => ?_, fun G f z hW hz => ?_⟩
    · rw [e1] at l1
      refine b2_s hi s7 (h.m18 m hi.1 hi.2) l0 l1 (fun v hv K => az_mc_eq (cm_canPut (n := n + 3) m v hi (h.parts m hi.1 hi.2) h.bins g33 hv)) (fun c => ?_) kn1 (fun lv a b => rr n r f z Q lv a b kn)
      rcases kr c with ⟨q1, q2, q3⟩ | q
      · exact Or.inl ⟨q1, q2, fun K => az_mc_eq (q3 (n + 4) r f z)⟩
      · exact Or.inr q
    · obtain ⟨G1, f1, z1, x1, x2, x3, x4⟩ := kc G f z hW hz
      obtain ⟨G', f', z', y1, y2, y3⟩ := cc G1 f1 z1 x2 x1.2.2.2.2.2.2.2.2.1
      refine ⟨G', f', z', cz_X_tr x1 y1, y2, fun n Q lv l0 l1 kn => ?_⟩
      rw [e1] at l1
      have ad := cz_X_ad x1 17 (by omega)
      rw [← ad] at y3
      exact c2_s hW hi l0 l1 (fun c K => az_mc_eq (x3 c n)) x4 (fun lv a b => y3 n Q lv a b kn)
theorem BT3 : ∀ (m : Nat) (S : az_M) (loc : Int → Int), m ≤ 12 → Inv S loc D F → S 0 0 = 1 → ∃ S' loc', Inv S' loc' D F ∧ su_fr S S' ∧ (∀ (n r : Nat) (f : Nat → az_C) (z : Nat × Nat) (Q : Option Value → az_H → Prop) (lv : az_L), lv 0 = some (.ref r) → lv 1 = some (.int (Int32.ofInt ((m : Int) + -1))) → (∀ lv : az_L, lv 0 = some (.ref r) → lv 1 = some (.int (Int32.ofInt 0)) → az_p173 (az_ex az_T (n + 6)) Q (111, lv, [], (az_RH r S' f, z))) → az_p173 (az_ex az_T (n + 6)) Q (85, lv, [], (az_RH r S f, z))) ∧ (∀ (G : cz_G), cz_W G S → cz_W G S' ∧ ∀ (n : Nat) (f : Nat → az_C) (z : Nat × Nat) (Q : Option Value → az_H → Prop) (lv : az_L), lv 0 = some (.ref (G.ad 17)) → lv 1 = some (.int (Int32.ofInt ((m : Int) + -1))) → (∀ lv : az_L, lv 0 = some (.ref (G.ad 17)) → lv 1 = some (.int (Int32.ofInt (-1))) → az_p62 (az_ex az_T (n + 6)) Q (76, lv, [], (cz_H G S' f, z))) → az_p62 (az_ex az_T (n + 6)) Q (76, lv, [], (cz_H G S f, z)))
  | 0, S, loc, _, h, _ => ⟨S, loc, h, su_fr_rfl, fun n r f z Q lv l0 l1 kn => b3_e l0 l1 kn, fun G hW => ⟨hW, fun n f z Q lv l0 l1 kn => kn lv l0 l1⟩⟩
  | m + 1, S, loc, hm, h, h0 => by
    have hi : (0 : Int) ≤ m ∧ (m : Int) < 12 := by omega
    have e1 : ((m + 1 : Nat) : Int) + -1 = m := by omega
    have s7 := h.l.s7 m hi.1 hi.2
    have st : ∃ S1 loc1, Inv S1 loc1 D F ∧ su_fr S S1 ∧ (S 7 m = 1 → ∀ (n r : Nat) (f : Nat → az_C) (z : Nat × Nat), az_ex az_T (n + 2) 172 [.ref r, .int (Int32.ofInt m)] (az_RH r S f, z) none (az_RH r S1 f, z)) ∧ (¬ S 7 m = 1 → S1 = S) ∧ (∀ G, cz_W G S → cz_W G S1 ∧ (S 7 m = 1 → ∀ (n : Nat) (f : Nat → az_C) (z : Nat × Nat), az_ex az_T (n + 3) 69 [.ref (G.ad 17), .ref (cz_as G m 0)] (cz_H G S f, z) none (cz_H G S1 f, z))) := by
      by_cases c : S 7 m = 1
      · obtain ⟨S1, loc1, iv, fr, kr, kc⟩ := TK h h0 hi.1 hi.2 c
        exact ⟨S1, loc1, iv, fr, fun _ n r f z => kr n r f z, fun q => absurd c q, fun G hW => ⟨(kc G (fun _ => .inr (.inr (.inr (0, [])))) (0, 0) hW).1, fun _ n f z => (kc G f z hW).2 n⟩⟩
      · exact ⟨S, loc, h, su_fr_rfl, fun q => absurd q c, fun _ => rfl, fun G hW => ⟨hW, fun q => absurd q c⟩⟩
    obtain ⟨S1, loc1, iv1, fr1, kr, kn1, kc⟩ := st
    obtain ⟨S', loc', iv', fr', rr, cc⟩ := BT3 m S1 loc1 (by omega) iv1 (by rw [fr1.1]; exact h0)
    refine ⟨S', loc', iv', su_fr_tr fr1 fr', fun n r f z Q lv l0 l1 kn => ?_, fun G hW => ?_⟩
    · rw [e1] at l1
      exact b3_s hi s7 l0 l1 (fun c K => az_mc_eq (kr c (n + 4) r f z)) kn1 (fun lv a b => rr n r f z Q lv a b kn)
    · obtain ⟨hW1, kc⟩ := kc G hW
      obtain ⟨hW2, cc⟩ := cc G hW1
      refine ⟨hW2, fun n f z Q lv l0 l1 kn => ?_⟩
      rw [e1] at l1
      exact c3_s hW hi l0 l1 (fun c K => az_mc_eq (kc c (n + 3) f z)) (fun c => by rw [kn1 c]) (fun lv a b => cc n f z Q lv a b kn)
theorem BT4 : ∀ (m : Nat) (i : Int) (S : az_M), i + m = 12 → 0 ≤ i → Inv S loc D F → S 0 0 = 1 → ∃ S', Inv S' loc D F ∧ su_fr S S' ∧ (∀ (n r : Nat) (f : Nat → az_C) (z : Nat × Nat) (Q : Option Value → az_H → Prop) (lv : az_L), lv 0 = some (.ref r) → lv 1 = some (.int (Int32.ofInt i)) → (∀ lv : az_L, lv 0 = some (.ref r) → lv 1 = some (.int (Int32.ofInt 0)) → az_p173 (az_ex az_T (n + 6)) Q (208, lv, [], (az_RH r S' f, z))) → az_p173 (az_ex az_T (n + 6)) Q (111, lv, [], (az_RH r S f, z))) ∧ (∀ (G : cz_G), cz_W G S → cz_W G S' ∧ ∀ (n : Nat) (f : Nat → az_C) (z : Nat × Nat) (Q : Option Value → az_H → Prop) (lv : az_L), lv 0 = some (.ref (G.ad 17)) → lv 1 = some (.int (Int32.ofInt i)) → (∀ lv : az_L, lv 0 = some (.ref (G.ad 17)) → lv 1 = some (.int (Int32.ofInt 0)) → az_p71 (az_ex az_T (n + 1)) Q (33, lv, [], (cz_H G S' f, z))) → az_p71 (az_ex az_T (n + 1)) Q (2, lv, [], (cz_H G S f, z)))
  | 0, i, S, hi, _, h, _ => ⟨S, h, su_fr_rfl, fun n r f z Q lv l0 l1 kn => b4_e l0 (by rw [show i = 12 by omega] at l1; exact l1) kn, fun G hW => ⟨hW, fun n f z Q lv l0 l1 kn => c4_e l0 (by rw [show i = 12 by omega] at l1; exact l1) kn⟩⟩
  | m + 1, i, S, hm, hi0, h, h0 => by
    have hi : 0 ≤ i ∧ i < 12 := by omega
    have s7 := h.l.s7 i hi.1 hi.2
    have m18 := h.m18 i hi.1 hi.2
    have st : ∃ S1, Inv S1 loc D F ∧ su_fr S S1 ∧ (S 7 i = 1 → S1 = sq_note S i) ∧ (¬ S 7 i = 1 → S1 = S) ∧ ∀ G, cz_W G S → cz_W G S1 := by
      by_cases c : S 7 i = 1
      · have k : ∀ (k : Nat) (j : Int), k ≠ 29 ∧ k ≠ 30 ∧ k ≠ 31 → sq_note S i k j = S k j := fun k j q => sq_note_k q.1 q.2.1 q.2.2
        exact ⟨sq_note S i, h.note h0 c, ⟨k 0 _ (by decide), k 2 _ (by decide), fun _ => k 3 _ (by decide), fun _ => k 7 _ (by decide)⟩, fun _ => rfl, fun q => absurd c q, fun G hW => cz_W_cg hW (fun _ => k 3 _ (by decide)) (fun _ => k 7 _ (by decide)) (k 33 _ (by decide))⟩
      · exact ⟨S, h, su_fr_rfl, fun q => absurd q c, fun _ => rfl, fun _ hW => hW⟩
    obtain ⟨S1, iv1, fr1, kr, kn1, kw⟩ := st
    obtain ⟨S', iv', fr', rr, cc⟩ := BT4 m (i + 1) S1 (by omega) (by omega) iv1 (by rw [fr1.1]; exact h0)
    refine ⟨S', iv', su_fr_tr fr1 fr', fun n r f z Q lv l0 l1 kn => ?_, fun G hW => ?_⟩
    · exact b4_s hi s7 m18 l0 l1 kr kn1 (fun lv a b => rr n r f z Q lv a b kn)
    · obtain ⟨hW2, cc⟩ := cc G (kw G hW)
      refine ⟨hW2, fun n f z Q lv l0 l1 kn => ?_⟩
      exact c4_s hW hi m18 l0 l1 kr kn1 (fun lv a b => cc n f z Q lv a b kn)
theorem BT5 : ∀ (m : Nat) (i : Int) (S : az_M), i + m = 16 → 0 ≤ i → Inv S loc D F → S 0 0 = 1 → ∃ S', Inv S' loc D F ∧ su_fr S S' ∧ (∀ (n r : Nat) (f : Nat → az_C) (z : Nat × Nat) (Q : Option Value → az_H → Prop) (lv : az_L), lv 0 = some (.ref r) → lv 1 = some (.int (Int32.ofInt i)) → Q none (az_RH r S' f, z) → az_p173 (az_ex az_T (n + 6)) Q (208, lv, [], (az_RH r S f, z))) ∧ (∀ (G : cz_G), cz_W G S → cz_W G S' ∧ ∀ (n : Nat) (f : Nat → az_C) (z : Nat × Nat) (Q : Option Value → az_H → Prop) (lv : az_L), lv 0 = some (.ref (G.ad 17)) → lv 1 = some (.int (Int32.ofInt i)) → Q none (cz_H G S' f, z) → az_p71 (az_ex az_T (n + 1)) Q (33, lv, [], (cz_H G S f, z)))
  | 0, i, S, hi, _, h, _ => ⟨S, h, su_fr_rfl, fun n r f z Q lv l0 l1 kn => b5_e l0 (by rw [show i = 16 by omega] at l1; exact l1) kn, fun G hW => ⟨hW, fun n f z Q lv l0 l1 kn => c5_e l0 (by rw [show i = 16 by omega] at l1; exact l1) kn⟩⟩
  | m + 1, i, S, hm, hi0, h, h0 => by
    have hi : 0 ≤ i ∧ i < 16 := by omega
    have b3 := h.b.b3 i hi.1 hi.2
    have b4 := h.b.b4 i hi.1 hi.2
    have b6 := h.b.b6 i hi.1 hi.2
    have k : ∀ (k : Nat) (j : Int), k ≠ 6 → su_nb S i k j = S k j := fun k j q => az_up_kn q
    obtain ⟨S', iv', fr', rr, cc⟩ := BT5 m (i + 1) (su_nb S i) (by omega) (by omega) (h.noteB h0 hi.1 hi.2) (by rw [k 0 _ (by decide)]; exact h0)
    refine ⟨S', iv', su_fr_tr ⟨k 0 _ (by decide), k 2 _ (by decide), fun _ => k 3 _ (by decide), fun _ => k 7 _ (by decide)⟩ fr', fun n r f z Q lv l0 l1 kn => ?_, fun G hW => ?_⟩
    · exact b5_s hi (by omega) b6 l0 l1 (fun lv a b => rr n r f z Q lv a b kn)
    · obtain ⟨hW2, cc⟩ := cc G (cz_W_cg hW (fun _ => k 3 _ (by decide)) (fun _ => k 7 _ (by decide)) (k 33 _ (by decide)))
      refine ⟨hW2, fun n f z Q lv l0 l1 kn => ?_⟩
      exact c5_s hW hi (by omega) b6 b4.2 l0 l1 (fun lv a b => cc n f z Q lv a b kn)
end BtC
