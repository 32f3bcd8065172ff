-- deps: 30.mK 31.mL 32.mM 34.mN 37.mQ 38.mR 39.mS 43.cls 44.sta 44.stb 44.stc 44.std 45.cA 46.cB 47.cC 48.cD 49.cE 50.cF 54.cI 55.cJ 58.cM 59.cN 43.raw 51.cG 53.cH 56.cK 57.cL 52.cG2 60.cO 61.cP 62.cQ 64.iA 65.iB 66.iC 67.iD 68.iE 69.iF 70.iG 72.iI 34.mN2 34.mN3 35.mO 36.mP 33.mM2
section IvJ
variable {S S1 : az_M} {loc : Int → Int} {D F : Nat} {s b l : Int}
theorem sp_ts_3 {g : Int → Int} {n : Int} (h : 0 ≤ n ∧ n ≤ 3) (hg : 0 ≤ g 0 ∧ 0 ≤ g 1 ∧ 0 ≤ g 2) : sp_ts g n.toNat 0 ≤ g 0 + g 1 + g 2 := by
  rcases (show n = 0 ∨ n = 1 ∨ n = 2 ∨ n = 3 by omega) with rfl | rfl | rfl | rfl
  · show (0 : Int) ≤ _
    omega
  · show g 0 + 0 ≤ _
    omega
  · show g 0 + (g (0 + 1) + 0) ≤ _
    rw [Int.zero_add]
    omega
  · show g 0 + (g 1 + (g 2 + 0)) ≤ _
    omega
theorem Inv.eStart (h : Inv S loc D F) (h0 : S 0 0 = 1) (h1 : 0 ≤ s) (h2 : s < 12) (c : S 7 s = 1) (m : S 18 s = 2) (hc : sq_canPut S s) : iE S loc D F s (S 13 s).toNat 0 := by
  have ou := (h.l.li s h1 h2 c).2
  have o1 := ou.1
  have pt := (h.pt s h1 h2 c m).2
  obtain ⟨⟨p1, p2⟩, p3, p4, p5, p6, p7, p8, p9, p10, p11, p12⟩ := pt
  have fl := h.z.lo _ p1.1 p1.2
  have ts0 : ∀ g : Int → Int, sp_sum g (S 13 s).toNat = sp_ts g (S 13 s).toNat 0 := fun g => by
    have := sp_ts_eq g (S 13 s).toNat 0
    rw [Nat.zero_add] at this
    show _ = sp_ts g (S 13 s).toNat ((0 : Nat) : Int)
    rw [this]
    show (0 : Int) + _ = _
    omega
  refine ⟨h0, h.a, h.z, h.b, h.l, h.p, fun t t1 t2 t3 => ⟨fun c => h.m.md t t1 t2 c, fun c => h.m.mu t t1 t2 c⟩, h.m.le, ?_, h.q.q2, h.q.q3, ⟨p1, by omega, fun _ => p2⟩, fun o x1 x2 x3 => ?_, ?_, fun o x1 x2 => ?_⟩
  · have e := sm_up (g := ps_s S) (h := ps_x S s) s 12 h1 h2 (fun j _ _ q => by unfold ps_x; rw [if_neg q])
    have e0 : ps_x S s s = 0 := by unfold ps_x; rw [if_pos rfl]
    have es : ps_s S s = (S 109 (3 * s) + S 109 (3 * s + 1) + S 109 (3 * s + 2)) * mx (S 36 (S 21 s)) := by
      unfold ps_s
      rw [if_neg (by omega)]
    have m0 := mx_b (S 36 (S 21 s)) fl.2.2.1.1
    have t3 := sp_ts_3 (g := sq_109 S s) o1 (by unfold sq_109; rw [Int.add_zero]; omega)
    have e9 : sq_109 S s 0 + sq_109 S s 1 + sq_109 S s 2 = S 109 (3 * s) + S 109 (3 * s + 1) + S 109 (3 * s + 2) := by
      unfold sq_109
      rw [Int.add_zero]
    have q := h.q.q1
    have mul := Int.mul_le_mul_of_nonneg_right (a := sp_ts (sq_109 S s) (S 13 s).toNat 0) (b := sq_109 S s 0 + sq_109 S s 1 + sq_109 S s 2) (c := mx (S 36 (S 21 s))) t3 (by omega)
    rw [e9] at mul
    omega
  · have q := hc.2 o x1 x2
    have nf : ¬ sq_full S s o := fun w => q ⟨x3, w⟩
    unfold sq_full sq_lw at nf
    rw [ts0] at nf
    omega
  · have q := hc.1
    have t3 := sp_ts_3 (g := sq_nr S s) o1 (by unfold sq_nr; refine ⟨?_, ?_, ?_⟩ <;> split <;> omega)
    have e : sq_nr S s 0 + sq_nr S s 1 + sq_nr S s 2 = sq_newLots S s := by
      unfold sq_nr sq_newLots
      rw [Int.add_zero]
    omega
  · rcases (show o = 0 ∨ o = 1 ∨ o = 2 by omega) with rfl | rfl | rfl
    · rw [Int.add_zero]
      exact ⟨by omega, fun _ => p9⟩
    · refine ⟨p10.1, fun q => ?_⟩
      apply Classical.byContradiction
      intro w
      have := p11 (Or.inl (by omega))
      omega
    · refine ⟨p10.2, fun q => ?_⟩
      apply Classical.byContradiction
      intro w
      have := p11 (Or.inr (by omega))
      omega
theorem iE.fold (h1 : 0 ≤ s) (h2 : s < 12) : ∀ (m : Nat) (i : Int) (S : az_M) (loc : Int → Int), iE S loc D F s m i → S 7 s = 1 → 0 ≤ i → i + m = S 13 s → ∃ loc', iE (sq_putF s m i S) loc' D F s 0 (S 13 s)
  | 0, i, S, loc, h, _, _, e => by
    have : i = S 13 s := by omega
    rw [← this]
    exact ⟨loc, h⟩
  | m + 1, i, S, loc, h, c, i0, e => by
    obtain ⟨loc', h'⟩ := h.next i0 (by omega) h1 h2 c
    have k : ∀ (k : Nat) (j : Int), k = 7 ∨ k = 13 → (@ite _ (sq_wants S s i) sq_wants_d (sq_put1 S s i) S) k j = S k j := fun k j q => by
      split
      · exact sq_put1_k (by omega) (by omega) (by omega) (by omega) (by omega) (by omega) (by omega)
      · rfl
    have r := iE.fold h1 h2 m (i + 1) _ loc' h' (by rw [k 7 _ (by decide)]; exact c) (by omega) (by rw [k 13 _ (by decide)]; omega)
    rw [k 13 _ (by decide)] at r
    exact r
/-- what both come to -/
def su_e (X : az_M) (s : Int) : az_M := sq_fill (az_up (az_up (az_up (az_up (az_up X 23 s 0) 21 s (-1)) 20 s 0) 18 s 0) 108 s 0) s
def su_put (S : az_M) (s : Int) : az_M := su_e (sq_putF s (S 13 s).toNat 0 S) s
theorem iE.fin {i : Int} (h : iE S loc D F s 0 i) (h1 : 0 ≤ s) (h2 : s < 12) (c : S 7 s = 1) (h22 : S 22 s = -1) (h19 : S 19 s = 0) : Inv (su_e S s) loc D F := by
  obtain ⟨h0, a, z, b, l, p, mm, le, q1, q2, q3, fi, rm, nl, pc⟩ := h
  have g33 := a.g33
  have K : ∀ (k1 : Nat) (j : Int), k1 ≠ 18 ∧ k1 ≠ 20 ∧ k1 ≠ 21 ∧ k1 ≠ 23 ∧ k1 ≠ 108 ∧ k1 ≠ 109 → su_e S s k1 j = S k1 j := fun k1 j q => by
    unfold su_e sq_fill
    simp (disch := omega) only [az_up_kn]
  have K' : ∀ (k1 : Nat) (j : Int), j ≠ s → k1 = 18 ∨ k1 = 20 ∨ k1 = 21 ∨ k1 = 23 ∨ k1 = 108 → su_e S s k1 j = S k1 j := fun k1 j q w => by
    unfold su_e sq_fill
    rcases w with rfl | rfl | rfl | rfl | rfl <;> simp (disch := first | decide | exact q) only [az_up_kn, az_up_en]
  have f9 : ∀ j, j < 3 * s ∨ 3 * s + 2 < j → su_e S s 109 j = S 109 j := fun j q => by
    unfold su_e sq_fill
    simp (disch := first | decide | omega) only [az_up_kn, az_up_en]
  have em : iv_e (su_e S s) s := by
    refine ⟨?_, ?_, ?_, ?_, ?_, ?_, ?_, ?_⟩
    · unfold su_e sq_fill
      simp (disch := decide) only [az_up_kn, az_up_ee]
    · rw [K 22 _ (by decide)]; exact h22
    · unfold su_e sq_fill
      simp (disch := decide) only [az_up_kn, az_up_ee]
    · unfold su_e sq_fill
      simp (disch := decide) only [az_up_kn, az_up_ee]
    · unfold su_e sq_fill
      simp (disch := decide) only [az_up_kn, az_up_ee]
    · unfold su_e sq_fill
      simp (disch := first | decide | omega) only [az_up_kn, az_up_en, az_up_ee]
    · unfold su_e sq_fill
      simp (disch := first | decide | omega) only [az_up_kn, az_up_en, az_up_ee]
    · unfold su_e sq_fill
      rw [az_up_ee]
  have f18 : su_e S s 18 s = 0 := by
    unfold su_e sq_fill
    simp (disch := decide) only [az_up_kn, az_up_ee]
  have ee : ∀ t, t ≠ s → iv_e S t → iv_e (su_e S s) t := fun t e q => iv_e_fr q (K' 21 t e (by decide)) (K 22 _ (by decide)) (K' 23 t e (by decide)) (K' 20 t e (by decide)) (K' 108 t e (by decide)) (fun i _ _ => f9 _ (by omega))
  have pp : ∀ t, t ≠ s → iv_pt S loc t → iv_pt (su_e S s) loc t := fun t e q => iv_pt_fr q (K' 21 t e (by decide)) (K 22 _ (by decide)) (K' 23 t e (by decide)) (K' 20 t e (by decide)) (K' 108 t e (by decide)) (fun i _ _ => ⟨f9 _ (by omega), K 24 _ (by decide), K 25 _ (by decide), K 26 _ (by decide)⟩) (K 13 _ (by decide)) (by rw [K 33 _ (by decide)]; omega) (fun w => w) (K 34 _ (by decide)) (K 35 _ (by decide))
  have ww : ∀ t, t ≠ s → iv_wk S loc t → iv_wk (su_e S s) loc t := fun t e q => by
    refine iv_wk_fr q (K' 21 t e (by decide)) (K 22 _ (by decide)) (K' 23 t e (by decide)) (K' 20 t e (by decide)) (K' 108 t e (by decide)) (fun i _ _ => f9 _ (by omega)) (K 8 _ (by decide)) (by rw [K 33 _ (by decide)]; omega) (fun x x1 x2 x3 => x3) (fun i i1 i2 => ?_)
    rw [K 11 _ (by decide)] at i2
    rw [K 12 _ (by decide), K 3 _ (by decide), K 4 _ (by decide)]
    exact q.2.2.2.2.2.2.2.2.2 i i1 i2
  refine ⟨iA_cg a (fun k1 i q => K k1 i (by omega)), iZ_cg z (fun k1 i q => K k1 i (by omega)), iB_cg b (fun k1 i q => K k1 i (by omega)), iL_cg l (fun k1 i q => K k1 i (by omega)), ⟨fun t t1 t2 t3 => ?_, fun q => ?_, fun t t1 t2 t3 => ?_, fun t g t1 t2 t3 t4 => ?_⟩, iP_cg p (fun k1 i q => K k1 i (by omega)), ⟨?_, ?_, q3⟩⟩
  · rw [K 7 _ (by decide)] at t3
    by_cases e : t = s
    · rw [e, f18, K 19 _ (by decide)]
      exact Or.inl ⟨rfl, h19, em⟩
    · rw [K' 18 t e (by decide), K 19 _ (by decide)]
      rcases (mm t t1 t2 e).1 t3 with ⟨x, y, q⟩ | ⟨x, y, q⟩ | ⟨x, y, q⟩ | ⟨x, y, q⟩ | ⟨x, y, q⟩
      · exact Or.inl ⟨x, y, ee t e q⟩
      · exact Or.inr (Or.inl ⟨x, y, ww t e q⟩)
      · exact Or.inr (Or.inr (Or.inl ⟨x, y, pp t e q⟩))
      · exact Or.inr (Or.inr (Or.inr (Or.inl ⟨x, y, ee t e q⟩)))
      · exact Or.inr (Or.inr (Or.inr (Or.inr ⟨x, y, q.elim (fun q => Or.inl (ee t e q)) (fun q => Or.inr (pp t e q))⟩)))
  · rw [K 0 _ (by decide)] at q; omega
  · rw [K 7 _ (by decide)] at t3
    have e : t ≠ s := fun q => by rw [q] at t3; omega
    have q := (mm t t1 t2 e).2 t3
    rw [K' 18 t e (by decide), K 19 _ (by decide), K 28 _ (by decide), K 32 _ (by decide), K 29 _ (by decide), K 30 _ (by decide), K 31 _ (by decide)]
    exact ⟨q.1, q.2.1, ee t e q.2.2.1, q.2.2.2⟩
  · rw [K 27 _ (by decide), K 7 _ (by decide)]; exact le t g t1 t2 t3 t4
  · have s1 : ps_l (su_e S s) loc = ps_l S loc := by
      funext j
      unfold ps_l
      rw [K 34 _ (by decide), K 36 _ (by decide)]
    have s2 : sp_sum (ps_s (su_e S s)) 12 = sp_sum (ps_x S s) 12 := sm_cg _ (fun j j1 j2 => by
      unfold ps_x
      by_cases e : j = s
      · rw [if_pos e, e]
        unfold ps_s
        rw [if_pos em.1]
      · rw [if_neg e]
        have z := f9 (3 * j) (by omega)
        unfold ps_s
        rw [K' 21 j e (by decide), z, f9 _ (by omega), f9 _ (by omega), K 36 _ (by decide)])
    have q1 : sp_sum (ps_l S loc) (S 33 0).toNat + sp_sum (ps_x S s) 12 + 0 * mx (S 36 (S 21 s)) ≤ ps_b D * F := q1
    rw [K 33 _ (by decide), s1, s2]
    rw [Int.zero_mul] at q1
    omega
  · rw [K 33 _ (by decide)]; exact q2
theorem Inv.put (h : Inv S loc D F) (h0 : S 0 0 = 1) (h1 : 0 ≤ s) (h2 : s < 12) (c : S 7 s = 1) (m : S 18 s = 2) (hc : sq_canPut S s) : ∃ loc', Inv (su_put S s) loc' D F := by
  have o1 := (h.l.li s h1 h2 c).2.1
  have pt := h.pt s h1 h2 c m
  obtain ⟨loc', h'⟩ := iE.fold h1 h2 (S 13 s).toNat 0 S loc (h.eStart h0 h1 h2 c m hc) c (by decide) (by omega)
  have k := fun (k : Nat) (j : Int) (a : k ≠ 34 ∧ k ≠ 35 ∧ k ≠ 36 ∧ k ≠ 33 ∧ k ≠ 37 ∧ k ≠ 4 ∧ k ≠ 5) => sq_putF_13 (s := s) (S 13 s).toNat 0 S k j a.1 a.2.1 a.2.2.1 a.2.2.2.1 a.2.2.2.2.1 a.2.2.2.2.2.1 a.2.2.2.2.2.2
  exact ⟨loc', h'.fin h1 h2 (by rw [k 7 _ (by decide)]; exact c) (by rw [k 22 _ (by decide)]; exact pt.2.2.1) (by rw [k 19 _ (by decide)]; exact pt.1)⟩
/-! the reference puts the same -/
theorem sq_split_eq {g gr : Int} : sq_split S l g gr = sp_pgg (sp_nl S l) (S 33 0) g gr := by
  have m37 : ∀ i, sq_make S g gr (S 36 l) 37 i = S 37 i := fun i => sq_make_k (by decide) (by decide) (by decide) (by decide)
  unfold sq_split sq_cp
  rw [m37, m37, m37, m37]
  unfold sq_make sp_pgg sp_nl
  funext k i
  by_cases h : k ∈ [33, 34, 35, 36, 37]
  · simp only [List.mem_cons, List.not_mem_nil, or_false] at h
    rcases h with rfl | rfl | rfl | rfl | rfl <;> simp only [az_up_ap, Nat.reduceEqDiff, reduceIte]
  · simp only [List.mem_cons, List.not_mem_nil, or_false, not_or] at h
    obtain ⟨h1, h2, h3, h4, h5⟩ := h
    simp only [az_up_ap, h1, h2, h3, h4, h5, if_false]
theorem sp_put1_f (q : iv_pt S loc s) : sp_put1 S s (S 21 s) 0 = sq_put1 S s (S 108 s) := by
  obtain ⟨⟨p1, p2⟩, p3, p4, p5, p6, p7, p8, p9, p10, p11, p12⟩ := q
  unfold sp_put1 sq_put1 sp_pgg
  rw [if_pos rfl, if_pos rfl, Int.add_zero, p6, p7, p8, az_up_id (S := S) rfl, az_up_id (S := S) rfl]
theorem sp_put1_n {i o : Int} (hi : i ≠ 0) (ho : o ≠ S 108 s) (q : iv_pc S s i o) : sp_put1 S s (S 21 s) i = sq_put1 S s o := by
  obtain ⟨q1, q2, q3, q4⟩ := q
  unfold sp_put1 sq_put1
  rw [if_neg hi, if_neg ho, q1, q2, q3, sq_split_eq]
theorem iv_pt_put1 {o : Int} (q : iv_pt S loc s) : iv_pt (sq_put1 S s o) (fun _ => 20 + s) s := by
  have K := fun (k : Nat) (j : Int) (a : k ≠ 34 ∧ k ≠ 35 ∧ k ≠ 36 ∧ k ≠ 33 ∧ k ≠ 37 ∧ k ≠ 4 ∧ k ≠ 5) => sq_put1_k (S := S) (s := s) (o := o) (i := j) a.1 a.2.1 a.2.2.1 a.2.2.2.1 a.2.2.2.2.1 a.2.2.2.2.2.1 a.2.2.2.2.2.2
  have f33 : S 33 0 ≤ sq_put1 S s o 33 0 := by
    unfold sq_put1
    split
    · rw [sp_puts_k' (by decide) (by decide)]; omega
    · rw [sp_puts_k' (by decide) (by decide), sq_split_33]; omega
  have lt : ∀ j, j < S 33 0 → sq_put1 S s o 34 j = S 34 j ∧ sq_put1 S s o 35 j = S 35 j := fun j hj => by
    unfold sq_put1
    split
    · exact ⟨sp_puts_k' (by decide) (by decide), sp_puts_k' (by decide) (by decide)⟩
    · rw [sp_puts_k' (by decide) (by decide), sp_puts_k' (by decide) (by decide)]
      have := sq_split_lt (S := S) (l := S 21 s) (g := S 109 (3 * s + o)) (gr := sp_hi S (S 21 s) o) (i := j) hj
      exact ⟨this.1, this.2.1⟩
  exact iv_pt_fr q (K 21 _ (by decide)) (K 22 _ (by decide)) (K 23 _ (by decide)) (K 20 _ (by decide)) (K 108 _ (by decide)) (fun i _ _ => ⟨K 109 _ (by decide), K 24 _ (by decide), K 25 _ (by decide), K 26 _ (by decide)⟩) (K 13 _ (by decide)) f33 (fun _ => rfl) (lt _ q.1.1.2).1 (lt _ q.1.1.2).2
theorem sq_wants_1 {o p : Int} : sq_wants (sq_put1 S s o) s p ↔ sq_wants S s p := by
  unfold sq_wants
  rw [sq_put1_k (by decide) (by decide) (by decide) (by decide) (by decide) (by decide) (by decide), sq_put1_k (by decide) (by decide) (by decide) (by decide) (by decide) (by decide) (by decide), sq_put1_k (by decide) (by decide) (by decide) (by decide) (by decide) (by decide) (by decide)]
theorem sp_putF_eq (q : iv_pt S loc s) (h13 : S 13 s ≤ 3) : sp_putF s (S 21 s) (S 23 s).toNat 0 S = sq_putF s (S 13 s).toNat 0 S := by
  have q' := q
  obtain ⟨⟨p1, p2⟩, p3, p4, p5, p6, p7, p8, p9, p10, p11, p12⟩ := q'
  have k := fun (o : Int) (k : Nat) (j : Int) (a : k ≠ 34 ∧ k ≠ 35 ∧ k ≠ 36 ∧ k ≠ 33 ∧ k ≠ 37 ∧ k ≠ 4 ∧ k ≠ 5) => sq_put1_k (S := S) (s := s) (o := o) (i := j) a.1 a.2.1 a.2.2.1 a.2.2.2.1 a.2.2.2.2.1 a.2.2.2.2.2.1 a.2.2.2.2.2.2
  have n21 : S 21 s ≠ -1 := by omega
  have w108 : sq_wants S s (S 108 s) := ⟨n21, Or.inl rfl⟩
  have wn : ∀ o, o ≠ S 108 s → S 109 (3 * s + o) ≤ 0 → ¬ sq_wants S s o := fun o a b w => by
    rcases w.2 with x | x
    · exact a x
    · omega
  have wy : ∀ o, 0 < S 109 (3 * s + o) → sq_wants S s o := fun o a => ⟨n21, Or.inr a⟩
  have pf := sp_put1_f q
  have q1 : iv_pt (sq_put1 S s (S 108 s)) (fun _ => 20 + s) s := iv_pt_put1 q
  have e21 : ∀ o, sq_put1 S s o 21 s = S 21 s := fun o => k o 21 s (by decide)
  have e108 : ∀ o, sq_put1 S s o 108 s = S 108 s := fun o => k o 108 s (by decide)
  rcases p12 with ⟨k1, k2, k3⟩ | ⟨k1, k2, k3, k4⟩ | ⟨k1, k2, k3, k4⟩ | ⟨k1, k2, k3, k4, k5⟩
  · have L : sp_putF s (S 21 s) (S 23 s).toNat 0 S = sq_put1 S s (S 108 s) := by
      rw [k3]
      show sp_put1 S s (S 21 s) 0 = _
      exact pf
    rw [L]
    rcases (show S 13 s = 1 ∨ S 13 s = 2 ∨ S 13 s = 3 by omega) with e | e | e
    · rw [e]
      have z : S 108 s = 0 := by omega
      show _ = (@ite _ (sq_wants S s 0) sq_wants_d (sq_put1 S s 0) S)
      rw [← z, if_pos w108]
    · rw [e]
      show _ = sq_putF s 1 1 (@ite _ (sq_wants S s 0) sq_wants_d (sq_put1 S s 0) S)
      rcases (show S 108 s = 0 ∨ S 108 s = 1 by omega) with z | z
      · have n1 := wn 1 (by omega) (by omega)
        rw [z] at w108 ⊢
        rw [if_pos w108]
        show _ = (@ite _ (sq_wants (sq_put1 S s 0) s 1) sq_wants_d _ _)
        rw [if_neg (fun w => n1 (sq_wants_1.mp w))]
      · have n0 := wn 0 (by omega) (by rw [Int.add_zero]; omega)
        rw [if_neg n0]
        show _ = (@ite _ (sq_wants S s 1) sq_wants_d (sq_put1 S s 1) S)
        rw [z] at w108 ⊢
        rw [if_pos w108]
    · rw [e]
      show _ = sq_putF s 2 1 (@ite _ (sq_wants S s 0) sq_wants_d (sq_put1 S s 0) S)
      rcases (show S 108 s = 0 ∨ S 108 s = 1 ∨ S 108 s = 2 by omega) with z | z | z
      · have n1 := wn 1 (by omega) (by omega)
        have n2 := wn 2 (by omega) (by omega)
        rw [z] at w108 ⊢
        rw [if_pos w108]
        show _ = sq_putF s 1 2 (@ite _ (sq_wants (sq_put1 S s 0) s 1) sq_wants_d _ _)
        rw [if_neg (fun w => n1 (sq_wants_1.mp w))]
        show _ = (@ite _ (sq_wants (sq_put1 S s 0) s 2) sq_wants_d _ _)
        rw [if_neg (fun w => n2 (sq_wants_1.mp w))]
      · have n0 := wn 0 (by omega) (by rw [Int.add_zero]; omega)
        have n2 := wn 2 (by omega) (by omega)
        rw [if_neg n0]
        show _ = sq_putF s 1 2 (@ite _ (sq_wants S s 1) sq_wants_d (sq_put1 S s 1) S)
        rw [z] at w108 ⊢
        rw [if_pos w108]
        show _ = (@ite _ (sq_wants (sq_put1 S s 1) s 2) sq_wants_d _ _)
        rw [if_neg (fun w => n2 (sq_wants_1.mp w))]
      · have n0 := wn 0 (by omega) (by rw [Int.add_zero]; omega)
        have n1 := wn 1 (by omega) (by omega)
        rw [if_neg n0]
        show _ = sq_putF s 1 2 (@ite _ (sq_wants S s 1) sq_wants_d (sq_put1 S s 1) S)
        rw [if_neg n1]
        show _ = (@ite _ (sq_wants S s 2) sq_wants_d (sq_put1 S s 2) S)
        rw [z] at w108 ⊢
        rw [if_pos w108]
  · have z := p11 (Or.inl k1)
    have k4' := k4.2.2.2
    have w1 := wy 1 k1
    rw [z] at w108 pf q1
    have pn : sp_put1 (sq_put1 S s 0) s (S 21 s) 1 = sq_put1 (sq_put1 S s 0) s 1 := by
      have := sp_put1_n (S := sq_put1 S s 0) (s := s) (i := 1) (o := 1) (by decide) (by rw [e108]; omega) (by
        obtain ⟨-, -, -, -, -, -, -, -, -, -, r⟩ := q1
        rw [k 0 109 _ (by decide), k 0 109 _ (by decide)] at r
        rcases r with ⟨r, -⟩ | ⟨-, -, -, r⟩ | ⟨r, -⟩ | ⟨-, -, -, r, -⟩
        · omega
        · exact r
        · omega
        · exact r)
      rw [e21] at this
      exact this
    have L : sp_putF s (S 21 s) (S 23 s).toNat 0 S = sq_put1 (sq_put1 S s 0) s 1 := by
      rw [k3]
      show sp_put1 (sp_put1 S s (S 21 s) 0) s (S 21 s) 1 = _
      rw [pf, pn]
    rw [L]
    rcases (show S 13 s = 2 ∨ S 13 s = 3 by omega) with e | e
    · rw [e]
      show _ = sq_putF s 1 1 (@ite _ (sq_wants S s 0) sq_wants_d (sq_put1 S s 0) S)
      rw [if_pos w108]
      show _ = (@ite _ (sq_wants (sq_put1 S s 0) s 1) sq_wants_d (sq_put1 (sq_put1 S s 0) s 1) _)
      rw [if_pos (sq_wants_1.mpr w1)]
    · rw [e]
      have n2 := wn 2 (by omega) (by omega)
      show _ = sq_putF s 2 1 (@ite _ (sq_wants S s 0) sq_wants_d (sq_put1 S s 0) S)
      rw [if_pos w108]
      show _ = sq_putF s 1 2 (@ite _ (sq_wants (sq_put1 S s 0) s 1) sq_wants_d (sq_put1 (sq_put1 S s 0) s 1) _)
      rw [if_pos (sq_wants_1.mpr w1)]
      show _ = (@ite _ (sq_wants (sq_put1 (sq_put1 S s 0) s 1) s 2) sq_wants_d _ _)
      rw [if_neg (fun w => n2 (sq_wants_1.mp (sq_wants_1.mp w)))]
  · have z := p11 (Or.inr k2)
    have k4' := k4.2.2.2
    have w2 := wy 2 k2
    have n1 := wn 1 (by omega) (by omega)
    rw [z] at w108 pf q1
    have pn : sp_put1 (sq_put1 S s 0) s (S 21 s) 1 = sq_put1 (sq_put1 S s 0) s 2 := by
      have := sp_put1_n (S := sq_put1 S s 0) (s := s) (i := 1) (o := 2) (by decide) (by rw [e108]; omega) (by
        obtain ⟨-, -, -, -, -, -, -, -, -, -, r⟩ := q1
        rw [k 0 109 _ (by decide), k 0 109 _ (by decide)] at r
        rcases r with ⟨-, r, -⟩ | ⟨-, r, -⟩ | ⟨-, -, -, r⟩ | ⟨r, -⟩
        · omega
        · omega
        · exact r
        · omega)
      rw [e21] at this
      exact this
    have L : sp_putF s (S 21 s) (S 23 s).toNat 0 S = sq_put1 (sq_put1 S s 0) s 2 := by
      rw [k3]
      show sp_put1 (sp_put1 S s (S 21 s) 0) s (S 21 s) 1 = _
      rw [pf, pn]
    rw [L, show S 13 s = 3 by omega]
    show _ = sq_putF s 2 1 (@ite _ (sq_wants S s 0) sq_wants_d (sq_put1 S s 0) S)
    rw [if_pos w108]
    show _ = sq_putF s 1 2 (@ite _ (sq_wants (sq_put1 S s 0) s 1) sq_wants_d _ _)
    rw [if_neg (fun w => n1 (sq_wants_1.mp w))]
    show _ = (@ite _ (sq_wants (sq_put1 S s 0) s 2) sq_wants_d (sq_put1 (sq_put1 S s 0) s 2) _)
    rw [if_pos (sq_wants_1.mpr w2)]
  · have z := p11 (Or.inl k1)
    have k5' := k5.2.2.2
    have w1 := wy 1 k1
    have w2 := wy 2 k2
    rw [z] at w108 pf q1
    have pn : sp_put1 (sq_put1 S s 0) s (S 21 s) 1 = sq_put1 (sq_put1 S s 0) s 1 := by
      have := sp_put1_n (S := sq_put1 S s 0) (s := s) (i := 1) (o := 1) (by decide) (by rw [e108]; omega) (by
        obtain ⟨-, -, -, -, -, -, -, -, -, -, r⟩ := q1
        rw [k 0 109 _ (by decide), k 0 109 _ (by decide)] at r
        rcases r with ⟨r, -⟩ | ⟨-, -, -, r⟩ | ⟨r, -⟩ | ⟨-, -, -, r, -⟩
        · omega
        · exact r
        · omega
        · exact r)
      rw [e21] at this
      exact this
    have q2 : iv_pt (sq_put1 (sq_put1 S s 0) s 1) (fun _ => 20 + s) s := iv_pt_put1 q1
    have kk := fun (k : Nat) (j : Int) (a : k ≠ 34 ∧ k ≠ 35 ∧ k ≠ 36 ∧ k ≠ 33 ∧ k ≠ 37 ∧ k ≠ 4 ∧ k ≠ 5) => sq_put1_k (S := sq_put1 S s 0) (s := s) (o := 1) (i := j) a.1 a.2.1 a.2.2.1 a.2.2.2.1 a.2.2.2.2.1 a.2.2.2.2.2.1 a.2.2.2.2.2.2
    have pn2 : sp_put1 (sq_put1 (sq_put1 S s 0) s 1) s (S 21 s) 2 = sq_put1 (sq_put1 (sq_put1 S s 0) s 1) s 2 := by
      have := sp_put1_n (S := sq_put1 (sq_put1 S s 0) s 1) (s := s) (i := 2) (o := 2) (by decide) (by rw [kk 108 _ (by decide), e108]; omega) (by
        obtain ⟨-, -, -, -, -, -, -, -, -, -, r⟩ := q2
        rw [kk 109 _ (by decide), kk 109 _ (by decide), k 0 109 _ (by decide), k 0 109 _ (by decide)] at r
        rcases r with ⟨r, -⟩ | ⟨-, r, -⟩ | ⟨r, -⟩ | ⟨-, -, -, -, r⟩
        · omega
        · omega
        · omega
        · exact r)
      rw [kk 21 _ (by decide), e21] at this
      exact this
    have L : sp_putF s (S 21 s) (S 23 s).toNat 0 S = sq_put1 (sq_put1 (sq_put1 S s 0) s 1) s 2 := by
      rw [k3]
      show sp_put1 (sp_put1 (sp_put1 S s (S 21 s) 0) s (S 21 s) 1) s (S 21 s) 2 = _
      rw [pf, pn, pn2]
    rw [L, show S 13 s = 3 by omega]
    show _ = sq_putF s 2 1 (@ite _ (sq_wants S s 0) sq_wants_d (sq_put1 S s 0) S)
    rw [if_pos w108]
    show _ = sq_putF s 1 2 (@ite _ (sq_wants (sq_put1 S s 0) s 1) sq_wants_d (sq_put1 (sq_put1 S s 0) s 1) _)
    rw [if_pos (sq_wants_1.mpr w1)]
    show _ = (@ite _ (sq_wants (sq_put1 (sq_put1 S s 0) s 1) s 2) sq_wants_d (sq_put1 (sq_put1 (sq_put1 S s 0) s 1) s 2) _)
    rw [if_pos (sq_wants_1.mpr (sq_wants_1.mpr w2))]
end IvJ
