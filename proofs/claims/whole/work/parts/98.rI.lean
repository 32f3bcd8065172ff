-- deps: 31.mL 34.mN 37.mQ 39.mS 40.mT 41.mU 42.mV 43.cls 44.sta 44.stb 44.stc 44.std 45.cA 46.cB 47.cC 48.cD 49.cE 50.cF 51.cG 53.cH 52.cG2 60.cO 90.rA 91.rB 92.rC 93.rD 94.rE 95.rF 96.rG 97.rH 58.cM 59.cN 56.cK 57.cL 43.raw 54.cI 55.cJ
/-! ===== the rings are the same ===== -/
section RgI
variable {L M : Int → Int → Prop} {e s t : Int}
theorem wk_mo {L' : Int → Int → Prop} (h : ∀ s t, 0 ≤ s → s < 12 → 0 ≤ t → t < 12 → L s t → L' s t) : ∀ (n : Nat) (s : Int), 0 ≤ s → s < 12 → wk L e n s → wk L' e n s
  | 0, _, _, _, q => q
  | n + 1, s, s0, s1, ⟨t, t1, t2, t3⟩ => ⟨t, t1, h s t s0 s1 t1.1 t1.2 t2, wk_mo h n t t1.1 t1.2 t3⟩
theorem sp_d_mo {L' : Int → Int → Prop} (h : ∀ s t, 0 ≤ s → s < 12 → 0 ≤ t → t < 12 → L s t → L' s t) (s0 : 0 ≤ s) (s1 : s < 12) : sp_d L' e s ≤ sp_d L e s := by
  rcases sp_d_p (L := L) (e := e) (s := s) with ⟨k, k1, k2, k3, k4, _⟩ | ⟨k1, _⟩
  · rw [k3]
    exact sp_d_le k1 k2 (wk_mo h k s s0 s1 k4)
  · have := sp_d_b (L := L') (e := e) (s := s)
    omega
theorem wk_cat {a : Int} : ∀ (n k : Nat) (s : Int), wk L a n s → wk L e k a → wk L e (n + k) s
  | 0, k, s, q, w => by
    have q : s = a := q
    rw [Nat.zero_add, q]; exact w
  | n + 1, k, s, ⟨t, t1, t2, t3⟩, w => by
    rw [show n + 1 + k = (n + k) + 1 by omega]
    exact ⟨t, t1, t2, wk_cat n k t t3 w⟩
theorem wk_1 (ht : 0 ≤ t ∧ t < 12) (h : L s t) : wk L t 1 s := ⟨t, ht, h, rfl⟩
/-- a short closed walk through fr stays at fr or above -/
theorem wk_up {fr best : Int} (hb : best ≤ 12) (hl : ∀ u, 0 ≤ u → u < fr → best < sp_d L u u) : ∀ (n a : Nat) (s : Int), 0 ≤ s → s < 12 → wk L s a fr → wk L fr n s → 1 ≤ a + n → (a : Int) + n ≤ best → fr ≤ s ∧ wk (Lr L fr) fr n s := by
  have lo : ∀ (n a : Nat) (s : Int), 0 ≤ s → wk L s a fr → wk L fr n s → 1 ≤ a + n → (a : Int) + n ≤ best → fr ≤ s := fun n a s s0 w1 w2 h1 h2 => by
    by_cases c : s < fr
    · have q := sp_d_le (L := L) (e := s) (s := s) (k := n + a) (by omega) (by omega) (wk_cat n a s w2 w1)
      have := hl s s0 c
      omega
    · omega
  intro n
  induction n with
  | zero =>
    intro a s s0 s1 w1 w2 h1 h2
    exact ⟨lo 0 a s s0 w1 w2 h1 h2, w2⟩
  | succ n ih =>
    intro a s s0 s1 w1 w2 h1 h2
    have q := lo (n + 1) a s s0 w1 w2 h1 h2
    obtain ⟨t, t1, t2, t3⟩ := w2
    obtain ⟨r1, r2⟩ := ih (a + 1) t t1.1 t1.2 (wk_cat a 1 fr w1 (wk_1 t1 t2)) t3 (by omega) (by omega)
    exact ⟨q, t, t1, ⟨t2, q, r1⟩, r2⟩
theorem Lr_M (hM : ∀ s t, 0 ≤ s → s < 12 → 0 ≤ t → t < 12 → (M s t ↔ L s t)) {fr : Int} : ∀ s t, 0 ≤ s → s < 12 → 0 ≤ t → t < 12 → (Lr M fr s t ↔ Lr L fr s t) := fun s t a b c d => by
  unfold Lr
  rw [hM s t a b c d]
theorem rg_ge (hM : ∀ s t, 0 ≤ s → s < 12 → 0 ≤ t → t < 12 → (M s t ↔ L s t)) (s0 : 0 ≤ s) (s1 : s < 12) : sp_d L e s ≤ sp_d (Lr M e) e s := sp_d_mo (fun s t a b c d q => ((Lr_M hM s t a b c d).mp q).1) s0 s1
theorem rg_up (hM : ∀ s t, 0 ≤ s → s < 12 → 0 ≤ t → t < 12 → (M s t ↔ L s t)) {fr best : Int} (hb : best ≤ 12) (hl : ∀ u, 0 ≤ u → u < fr → best < sp_d L u u) (n a : Nat) (s : Int) (s0 : 0 ≤ s) (s1 : s < 12) (w1 : wk L s a fr) (w2 : wk L fr n s) (h1 : 1 ≤ a + n) (h2 : (a : Int) + n ≤ best) : fr ≤ s ∧ wk (Lr M fr) fr n s := by
  obtain ⟨q1, q2⟩ := wk_up hb hl n a s s0 s1 w1 w2 h1 h2
  exact ⟨q1, wk_mo (fun s t a b c d => (Lr_M hM s t a b c d).mpr) n s s0 s1 q2⟩
theorem rg_bf (hM : ∀ s t, 0 ≤ s → s < 12 → 0 ≤ t → t < 12 → (M s t ↔ L s t)) : sp_bf (fun s => sp_d (Lr M s) s s) 12 = sp_bf (fun s => sp_d L s s) 12 := by
  have p1 := sp_bf_p (c := fun s => sp_d L s s) (fun _ _ _ => sp_d_b) 12 (by decide)
  have p2 := sp_bf_p (c := fun s => sp_d (Lr M s) s s) (fun _ _ _ => sp_d_b) 12 (by decide)
  have ge : ∀ s, 0 ≤ s → s < 12 → sp_d L s s ≤ sp_d (Lr M s) s s := fun s a b => rg_ge hM a b
  generalize sp_bf (fun s => sp_d (Lr M s) s s) 12 = B' at p2 ⊢
  generalize sp_bf (fun s => sp_d L s s) 12 = B at p1 ⊢
  obtain ⟨b1, f1⟩ := B
  obtain ⟨b2, f2⟩ := B'
  rcases p1 with ⟨⟨x1, x2⟩, x3⟩ | ⟨x1, x2, x3, x4, x5⟩
  · rcases p2 with ⟨⟨y1, y2⟩, y3⟩ | ⟨y1, y2, y3, y4, y5⟩
    · have x1 : b1 = 100 := x1
      have x2 : f1 = -1 := x2
      have y1 : b2 = 100 := y1
      have y2 : f2 = -1 := y2
      rw [x1, x2, y1, y2]
    · have y1 : 0 ≤ f2 ∧ f2 < 12 := y1
      have y2 : b2 = sp_d (Lr M f2) f2 f2 := y2
      have y3 : 1 ≤ b2 ∧ b2 ≤ 12 := y3
      have q := ge f2 y1.1 y1.2
      have q2 : sp_d L f2 f2 = 100 := x3 f2 y1.1 y1.2
      omega
  · have x1 : 0 ≤ f1 ∧ f1 < 12 := x1
    have x2 : b1 = sp_d L f1 f1 := x2
    have x3 : 1 ≤ b1 ∧ b1 ≤ 12 := x3
    have x4 : ∀ i : Int, 0 ≤ i → i < 12 → b1 ≤ sp_d L i i := x4
    have x5 : ∀ i : Int, 0 ≤ i → i < f1 → b1 < sp_d L i i := x5
    have cf : sp_d (Lr M f1) f1 f1 = b1 := by
      have e1 : ((b1.toNat : Nat) : Int) = b1 := by omega
      have w := sp_d_wk (L := L) (e := f1) (s := f1) (k := b1.toNat) (by omega) (by omega)
      have q := (rg_up hM x3.2 x5 b1.toNat 0 f1 x1.1 x1.2 rfl w (by omega) (by omega)).2
      have q1 := sp_d_le (by omega) (by omega) q
      have q2 := ge f1 x1.1 x1.2
      omega
    rcases p2 with ⟨⟨y1, y2⟩, y3⟩ | ⟨y1, y2, y3, y4, y5⟩
    · have q : sp_d (Lr M f1) f1 f1 = 100 := y3 f1 x1.1 x1.2
      omega
    · have y1 : 0 ≤ f2 ∧ f2 < 12 := y1
      have y2 : b2 = sp_d (Lr M f2) f2 f2 := y2
      have y4 : ∀ i : Int, 0 ≤ i → i < 12 → b2 ≤ sp_d (Lr M i) i i := y4
      have y5 : ∀ i : Int, 0 ≤ i → i < f2 → b2 < sp_d (Lr M i) i i := y5
      have q1 := y4 f1 x1.1 x1.2
      have q2 := ge f2 y1.1 y1.2
      have q3 := x4 f2 y1.1 y1.2
      have eb : b2 = b1 := by omega
      have ef : f2 = f1 := by
        rcases Int.lt_trichotomy f2 f1 with w | w | w
        · have := x5 f2 y1.1 w
          omega
        · exact w
        · have := y5 f1 x1.1 w
          omega
      rw [eb, ef]
theorem sp_lst_cg (hM : ∀ s t, 0 ≤ s → s < 12 → 0 ≤ t → t < 12 → (M s t ↔ L s t)) {P P' : Int → Prop} : ∀ (m : Nat) (i : Int), 0 ≤ i → i + m ≤ 12 → (∀ j, 0 ≤ j → j < 12 → (P j ↔ P' j)) → sp_lst P m i = sp_lst P' m i
  | 0, _, _, _, _ => rfl
  | m + 1, i, h0, h1, h => by
    unfold sp_lst
    by_cases c : P i
    · rw [if_pos c, if_pos ((h i h0 (by omega)).mp c)]
    · rw [if_neg c, if_neg (fun q => c ((h i h0 (by omega)).mpr q))]
      exact sp_lst_cg hM m (i + 1) (by omega) (by omega) h
theorem rg_ra (hM : ∀ s t, 0 ≤ s → s < 12 → 0 ≤ t → t < 12 → (M s t ↔ L s t)) {fr best : Int} (hf : 0 ≤ fr ∧ fr < 12) (hb : best = sp_d L fr fr) (hb1 : 1 ≤ best ∧ best ≤ 12) (hl : ∀ u, 0 ≤ u → u < fr → best < sp_d L u u) : ∀ k : Nat, (k : Int) < best → sp_ra (Lr M fr) (sp_d (Lr M fr) fr) fr best k = sp_ra L (sp_d L fr) fr best k ∧ wk L (sp_ra L (sp_d L fr) fr best k) k fr
  | 0, _ => ⟨rfl, rfl⟩
  | k + 1, h => by
    obtain ⟨i1, i2⟩ := rg_ra hM hf hb hb1 hl k (by omega)
    have ra := (sp_ra_p (L := L) hf hb.symm hb1 k (by omega)).1
    have rb := sp_ra_p (L := L) hf hb.symm hb1 (k + 1) h
    generalize ha : sp_ra L (sp_d L fr) fr best k = a at i1 i2 ra
    have ge : ∀ t, 0 ≤ t → t < 12 → sp_d L fr t ≤ sp_d (Lr M fr) fr t := fun t x y => rg_ge hM x y
    have e1 : sp_ra L (sp_d L fr) fr best (k + 1) = sp_lst (fun t => L a t ∧ sp_d L fr t = best - 1 - k) 12 0 := by
      rw [← ha]; rfl
    have e2 : sp_ra (Lr M fr) (sp_d (Lr M fr) fr) fr best (k + 1) = sp_lst (fun t => Lr M fr a t ∧ sp_d (Lr M fr) fr t = best - 1 - k) 12 0 := by
      rw [← i1]; rfl
    have eq : sp_lst (fun t => Lr M fr a t ∧ sp_d (Lr M fr) fr t = best - 1 - k) 12 0 = sp_lst (fun t => L a t ∧ sp_d L fr t = best - 1 - k) 12 0 := by
      refine sp_lst_cg hM 12 0 (by decide) (by decide) (fun t t0 t1 => ⟨fun q => ?_, fun q => ?_⟩)
      · have la := ((Lr_M hM a t ra.1 ra.2 t0 t1).mp q.1).1
        refine ⟨la, ?_⟩
        have g := ge t t0 t1
        have q2 := q.2
        rcases sp_d_b (L := L) (e := fr) (s := t) with w | w
        · have e3 : (((sp_d L fr t).toNat : Nat) : Int) = sp_d L fr t := by omega
          have wt := sp_d_wk (L := L) (e := fr) (s := t) (k := (sp_d L fr t).toNat) (by omega) (by omega)
          have cl := wk_cat k (1 + (sp_d L fr t).toNat) fr i2 (wk_cat 1 (sp_d L fr t).toNat a (wk_1 ⟨t0, t1⟩ la) wt)
          by_cases c : sp_d L fr t < best - 1 - k
          · have := sp_d_le (L := L) (e := fr) (s := fr) (by omega) (by omega) cl
            omega
          · omega
        · omega
      · have e3 : (((best - 1 - k).toNat : Nat) : Int) = best - 1 - k := by omega
        have wt := sp_d_wk (L := L) (e := fr) (s := t) (k := (best - 1 - k).toNat) (by have := q.2; omega) (by omega)
        have w1 := wk_cat k 1 fr i2 (wk_1 ⟨t0, t1⟩ q.1)
        obtain ⟨u1, u2⟩ := rg_up hM hb1.2 hl (best - 1 - k).toNat (k + 1) t t0 t1 w1 wt (by omega) (by omega)
        have wa : wk L fr (1 + (best - 1 - k).toNat) a := wk_cat 1 (best - 1 - k).toNat a (wk_1 ⟨t0, t1⟩ q.1) wt
        obtain ⟨v1, _⟩ := rg_up hM hb1.2 hl (1 + (best - 1 - k).toNat) k a ra.1 ra.2 i2 wa (by omega) (by omega)
        refine ⟨⟨(hM a t ra.1 ra.2 t0 t1).mpr q.1, v1, u1⟩, ?_⟩
        have g := ge t t0 t1
        have g2 := sp_d_le (by omega) (by omega) u2
        have := q.2
        omega
    refine ⟨by rw [e1, e2, eq], ?_⟩
    rw [e1]
    rcases sp_lst_p (P := fun t => L a t ∧ sp_d L fr t = best - 1 - k) 12 0 with ⟨u, u0, u1, u2, u3, _⟩ | ⟨u2, _⟩
    · rw [u2]
      exact wk_cat k 1 fr i2 (wk_1 ⟨u0, by omega⟩ u3.1)
    · rw [e1, u2] at rb
      omega
end RgI
section RgJ
variable {S : az_M} {i : Int}
theorem rg_eq (hM : ∀ s t, 0 ≤ s → s < 12 → 0 ≤ t → t < 12 → (sq_leads S s t ↔ sp_leads S s t)) : sq_ring S i = sp_ring S i := by
  have hM' : ∀ s t, 0 ≤ s → s < 12 → 0 ≤ t → t < 12 → ((fun a b => sq_lB S a b = true) s t ↔ sp_leads S s t) := fun s t a b c d => by
    show sq_lB S s t = true ↔ _
    rw [sq_lB_i, hM s t a b c d]
  have bf : sp_bf (rrc (sq_lB S)) 12 = sp_bf (sp_c S) 12 := rg_bf hM'
  have p1 := sp_bf_p (c := sp_c S) sp_c_b 12 (by decide)
  unfold sq_ring sp_ring
  rw [bf]
  unfold sp_fr sp_best
  generalize sp_bf (sp_c S) 12 = B at p1 ⊢
  obtain ⟨b, fr⟩ := B
  rcases p1 with ⟨⟨x1, x2⟩, x3⟩ | ⟨x1, x2, x3, x4, x5⟩
  · rw [if_neg (fun q => q.1 x1), if_neg (fun q => q.1 x2)]
  · have x1 : 0 ≤ fr ∧ fr < 12 := x1
    have x2 : b = sp_d (sp_leads S) fr fr := x2
    have x3 : 1 ≤ b ∧ b ≤ 12 := x3
    have x5 : ∀ i : Int, 0 ≤ i → i < fr → b < sp_d (sp_leads S) i i := x5
    by_cases c : 0 ≤ i ∧ i < b
    · rw [if_pos ⟨show b ≠ 100 by omega, c⟩, if_pos ⟨show fr ≠ -1 by omega, c.1, show i ≤ b - 1 by omega⟩]
      have q := (rg_ra hM' x1 x2 x3 x5 i.toNat (by omega)).1
      have cf : rrd (fun a b => sq_lB S a b = true) fr fr = b := by
        have g := rg_ge (e := fr) hM' x1.1 x1.2
        have e1 : ((b.toNat : Nat) : Int) = b := by omega
        have w := sp_d_wk (L := sp_leads S) (e := fr) (s := fr) (k := b.toNat) (by omega) (by omega)
        have q := (rg_up hM' x3.2 x5 b.toNat 0 fr x1.1 x1.2 rfl w (by omega) (by omega)).2
        have q1 := sp_d_le (by omega) (by omega) q
        unfold rrd
        omega
      show rra (fun a b => sq_lB S a b = true) fr i = _
      unfold rra
      rw [cf]
      exact q
    · rw [if_neg (fun q => c q.2), if_neg (fun q => c ⟨q.2.1, by have : i ≤ b - 1 := q.2.2; omega⟩)]
end RgJ
