-- deps: 30.mK 31.mL 32.mM 34.mN 37.mQ 38.mR 39.mS 43.cls 44.sta 44.stb 44.stc 44.std 45.cA 46.cB 47.cC 48.cD 49.cE 50.cF 54.cI 55.cJ 58.cM 59.cN 43.raw 51.cG 53.cH 56.cK 57.cL 52.cG2 60.cO 61.cP 62.cQ 64.iA 65.iB 66.iC 67.iD 68.iE 69.iF 70.iG 72.iI 75.iL 76.iM 77.iN 34.mN2 34.mN3 35.mO 36.mP 33.mM2
section IvO
variable {S U Y : az_M} {loc loc' : Int → Int} {D D' F : Nat} {s : Int}
/-- pack -/
theorem Inv.wkP (h : Inv S loc D F) (h0 : S 0 0 = 1) (h1 : 0 ≤ s) (h2 : s < 12) (c : S 7 s = 1) (m : S 18 s = 1) (m19 : S 19 s = 1) (hb : S 28 s < S 2 0) (hn : ∀ q, 0 ≤ q → q < S 38 0 → ¬ (S 39 q = s ∧ S 40 q = S 28 s + 1)) (k : S 8 s = 5) : Inv (su_wk S s) (lc loc (S 21 s) 0) D F := by
  have g2 := h.a.g2
  have en := h.p.en s h1 h2
  obtain ⟨⟨f1, f2⟩, f3, f4, w23, w20, w108, w9, w91, w92, rm⟩ := (h.wk s h1 h2 c m).2
  have s22 := f3 (by omega)
  have lot := h.lot f1.1 f1.2 (by omega)
  have fl := h.z.lo _ f1.1 f1.2
  have kd := h.kind h0 s h1 h2 c
  have T : ∀ (k : Nat) (i : Int), k ≠ 19 ∧ k ≠ 28 → sp_tt S s k i = S k i := fun k i q => sp_tt_k q.1 q.2
  have t19 : ∀ i, sp_tt S s 19 i = if i = s then 0 else S 19 i := fun i => by rw [sp_tt_19, m19]; rfl
  have t28 := fun i => sp_tt_28 (S := S) (s := s) (i := i) (by omega)
  have eR : sp_worked (sp_tt S s) s = az_up (az_up (sp_pack (sp_tt S s) s (S 21 s)) 22 s (-1)) 21 s (-1) := by
    unfold sp_worked
    rw [T 8 _ (by decide), if_neg (by omega), if_neg (by omega), if_neg (by omega), if_neg (by omega), if_neg (by omega), T 21 _ (by decide)]
  have eC : sq_worked (sp_tt S s) s = sq_clear (sq_pack (sp_tt S s) s) s := by
    unfold sq_worked
    rw [T 8 _ (by decide), if_neg (by omega), if_neg (by omega), if_neg (by omega), if_neg (by omega), if_neg (by omega)]
  have r23 : sp_worked (sp_tt S s) s 23 s = 0 := by
    rw [eR, az_up_kn (by decide), az_up_kn (by decide), sp_pack_k (by decide) (by decide) (by decide), T 23 _ (by decide)]
    exact w23
  have lo : ∀ (k : Nat) (i : Int), k < 55 → k ≠ 18 ∧ k ≠ 20 ∧ k ≠ 21 ∧ k ≠ 22 → su_wk S s k i = sp_pack (sp_tt S s) s (S 21 s) k i := fun k i a b => by
    rw [su_wk_lo a]
    unfold sp_we
    rw [az_up_kn b.1, az_up_kn b.2.1, eR, az_up_kn b.2.2.1, az_up_kn b.2.2.2]
  have P : ∀ (k : Nat) (i : Int), k < 55 → k ≠ 18 ∧ k ≠ 20 ∧ k ≠ 21 ∧ k ≠ 22 ∧ k ≠ 27 ∧ k ≠ 50 ∧ k ≠ 53 ∧ k ≠ 19 ∧ k ≠ 28 → su_wk S s k i = S k i := fun k i a b => by
    rw [lo k i a (by omega), sp_pack_k (by omega) (by omega) (by omega), T k i (by omega)]
  have u18 : ∀ i, su_wk S s 18 i = if i = s then 0 else S 18 i := fun i => by
    rw [su_wk_lo (by decide)]
    unfold sp_we
    rw [az_up_at, r23, az_up_kn (by decide), eR, az_up_kn (by decide), az_up_kn (by decide), sp_pack_k (by decide) (by decide) (by decide), T 18 _ (by decide)]
    rfl
  have u20 : ∀ i, su_wk S s 20 i = if i = s then 0 else S 20 i := fun i => by
    rw [su_wk_lo (by decide)]
    unfold sp_we
    rw [az_up_kn (by decide), az_up_at, r23, eR, az_up_kn (by decide), az_up_kn (by decide), sp_pack_k (by decide) (by decide) (by decide), T 20 _ (by decide)]
    rfl
  have u21 : ∀ i, su_wk S s 21 i = if i = s then -1 else S 21 i := fun i => by
    rw [su_wk_lo (by decide)]
    unfold sp_we
    rw [az_up_kn (by decide), az_up_kn (by decide), eR, az_up_at, az_up_kn (by decide), sp_pack_k (by decide) (by decide) (by decide), T 21 _ (by decide)]
  have u22 : ∀ i, su_wk S s 22 i = if i = s then -1 else S 22 i := fun i => by
    rw [su_wk_lo (by decide)]
    unfold sp_we
    rw [az_up_kn (by decide), az_up_kn (by decide), eR, az_up_kn (by decide), az_up_at, sp_pack_k (by decide) (by decide) (by decide), T 22 _ (by decide)]
  have u19 : ∀ i, su_wk S s 19 i = if i = s then 0 else S 19 i := fun i => by
    rw [lo 19 i (by decide) (by decide), sp_pack_k (by decide) (by decide) (by decide), t19]
  have u28 : ∀ i, su_wk S s 28 i = if i = s then S 28 s + 1 else S 28 i := fun i => by
    rw [lo 28 i (by decide) (by decide), sp_pack_k (by decide) (by decide) (by decide), t28]
  have hi : ∀ (k : Nat) (i : Int), 55 ≤ k → k ≠ 108 → k ≠ 109 → su_wk S s k i = S k i := fun k i a b d => by
    rw [su_wk_hi a, eC, sq_clear_k (by omega) (by omega) b d]
    unfold sq_pack sq_sack
    rw [az_up_kn (by omega), az_up_kn (by omega), az_up_kn (by omega), T k i (by omega)]
  have pk109 : ∀ i, sq_pack (sp_tt S s) s 109 i = S 109 i := fun i => by
    unfold sq_pack sq_sack
    rw [az_up_kn (by decide), az_up_kn (by decide), az_up_kn (by decide), T 109 _ (by decide)]
  have u108 : ∀ i, su_wk S s 108 i = if i = s then 0 else S 108 i := fun i => by
    rw [su_wk_hi (by decide), eC]
    unfold sq_clear sq_fill
    rw [az_up_kn (by decide), az_up_kn (by decide), az_up_kn (by decide), az_up_at, az_up_kn (by decide), az_up_kn (by decide)]
    unfold sq_pack sq_sack
    rw [az_up_kn (by decide), az_up_kn (by decide), az_up_kn (by decide), T 108 _ (by decide)]
  have u109 : ∀ i, su_wk S s 109 i = S 109 i := fun i => by
    rw [su_wk_hi (by decide), eC]
    unfold sq_clear sq_fill
    rw [az_up_at, az_up_at, az_up_at, az_up_kn (by decide), az_up_kn (by decide), az_up_kn (by decide), pk109]
    split
    · rename_i e; rw [e]; exact w92.symm
    · split
      · rename_i e; rw [e]; exact w91.symm
      · split
        · rename_i e; rw [e]; exact w9.symm
        · rfl
  have a9 := kd.2.2.2.2.1 k
  have gr := fl.2.1
  have g1 := fl.1
  have l0 := (h.m.le s (S 35 (S 21 s)) h1 h2 gr.1 gr.2).1
  have u27 : ∀ i, su_wk S s 27 i = if i = 10 * s + S 35 (S 21 s) then S 27 (10 * s + S 35 (S 21 s)) + S 34 (S 21 s) - sp_pk S s (S 21 s) * S 9 s else S 27 i := fun i => by
    have epk : sp_pk (sp_tt S s) s (S 21 s) = sp_pk S s (S 21 s) := by
      unfold sp_pk
      rw [T 27 _ (by decide), T 35 _ (by decide), T 34 _ (by decide), T 9 _ (by decide)]
    rw [lo 27 i (by decide) (by decide)]
    unfold sp_pack
    rw [az_up_kn (by decide), az_up_kn (by decide), az_up_at, az_up_at, epk, T 35 _ (by decide), T 27 _ (by decide), T 27 _ (by decide), T 34 _ (by decide), T 9 _ (by decide)]
    split
    · rfl
    · rfl
  have w : iW S (su_wk S s) s := by
    refine ⟨fun k i q => ?_, fun k i e q => ?_, fun k i e q => ?_, fun i e => ?_, fun x e => ?_⟩
    · unfold wk_k at q
      by_cases a : k < 55
      · exact P k i a (by omega)
      · exact hi k i (by omega) (by omega) (by omega)
    · rcases q with rfl | rfl | rfl | rfl | rfl | rfl | rfl | rfl | rfl
      · rw [u18, if_neg e]
      · rw [u19, if_neg e]
      · rw [u20, if_neg e]
      · rw [u21, if_neg e]
      · rw [u22, if_neg e]
      · exact P 23 i (by decide) (by decide)
      · rw [u28, if_neg e]
      · exact P 32 i (by decide) (by decide)
      · rw [u108, if_neg e]
    · rcases q with rfl | rfl | rfl | rfl
      · exact P 24 i (by decide) (by decide)
      · exact P 25 i (by decide) (by decide)
      · exact P 26 i (by decide) (by decide)
      · exact u109 i
    · rw [u27, if_neg (by omega)]
    · exact ⟨P 34 _ (by decide) (by decide), P 35 _ (by decide) (by decide), P 36 _ (by decide) (by decide), fun j _ _ => P 37 _ (by decide) (by decide)⟩
  refine h.work h0 h1 h2 c m w ?_ (fun x e _ => lc_n e) ?_ (fun g g1 g2 => ?_) ?_ (iQ_one h h1 h2 c m s22 w (fun x e _ => lc_n e) ?_)
  · unfold iv_l at fl ⊢
    rw [P 34 _ (by decide) (by decide), P 35 _ (by decide) (by decide), P 36 _ (by decide) (by decide), P 37 _ (by decide) (by decide), P 37 _ (by decide) (by decide), P 37 _ (by decide) (by decide), P 37 _ (by decide) (by decide)]
    exact fl
  · rw [u18, if_pos rfl, u19, if_pos rfl]
    refine Or.inl ⟨rfl, rfl, ?_, ?_, ?_, ?_, ?_, ?_, ?_, ?_⟩
    · rw [u21, if_pos rfl]
    · rw [u22, if_pos rfl]
    · rw [P 23 _ (by decide) (by decide)]; exact w23
    · rw [u20, if_pos rfl]
    · rw [u108, if_pos rfl]
    · rw [u109]; exact w9
    · rw [u109]; exact w91
    · rw [u109]; exact w92
  · rw [u27]
    split
    · have e1 := Int.mul_ediv_add_emod (S 27 (10 * s + S 35 (S 21 s)) + S 34 (S 21 s)) (S 9 s)
      have e2 := Int.emod_nonneg (S 27 (10 * s + S 35 (S 21 s)) + S 34 (S 21 s)) (show S 9 s ≠ 0 by omega)
      have e3 := Int.emod_lt_of_pos (S 27 (10 * s + S 35 (S 21 s)) + S 34 (S 21 s)) (show 0 < S 9 s by omega)
      unfold sp_pk
      rw [Int.mul_comm] at e1
      omega
    · exact (h.m.le s g h1 h2 g1 g2).1
  · refine iP_end h h1 h2 c m w (fun x e _ => lc_n e) ?_ hb (fun k i q => ?_) ?_ hn
    · rw [u28, if_pos rfl]
    · by_cases a : k < 55
      · exact P k i a (by omega)
      · exact hi k i (by omega) (by omega) (by omega)
    · rw [P 32 _ (by decide) (by decide)]
      exact h.p.fr s h1 h2
  · have z1 : ps_l (su_wk S s) (lc loc (S 21 s) 0) (S 21 s) = 0 := by unfold ps_l; rw [lc_y, if_pos rfl]
    have z2 : ps_s (su_wk S s) s = 0 := by unfold ps_s; rw [u21, if_pos rfl, if_pos rfl]
    rw [z1, z2]
    exact (ps_l_0 h.z _ f1.1 f1.2).1
end IvO
