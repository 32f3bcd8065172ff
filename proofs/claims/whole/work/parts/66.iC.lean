-- deps: 30.mK 31.mL 34.mN 37.mQ 38.mR 39.mS 43.cls 44.sta 44.stb 44.stc 44.std 45.cA 46.cB 47.cC 48.cD 49.cE 50.cF 54.cI 55.cJ 58.cM 43.raw 51.cG 53.cH 56.cK 57.cL 52.cG2 60.cO 62.cQ 64.iA 65.iB 34.mN2 34.mN3 35.mO 36.mP 33.mM2
/-! ===== what the invariant says to the methods ===== -/
section IvC
variable {S : az_M} {loc : Int → Int} {D F : Nat} {s : Int}
theorem Inv.hd (h : Inv S loc D F) (s : Int) (h1 : 0 ≤ s) (h2 : s < 12) : iv_hd S s := by
  have h7 := h.l.s7 s h1 h2
  refine ⟨h.ld s h1 h2, fun c => ?_, fun c => ?_, fun g g1 g2 => (h.m.le s g h1 h2 g1 g2).1⟩
  · have f := (iv_first h.m s h1 h2 h7).resolve_left c
    have q := h.lot f.1.1 f.1.2 (by omega)
    exact ⟨f.1.2, by have := q.2.1; omega⟩
  · have f := (iv_second h.m s h1 h2 h7).resolve_left c
    have q := h.lot f.1.1 f.1.2 (by omega)
    exact ⟨f.1.2, by have := q.2.1; omega⟩
theorem Inv.en (h : Inv S loc D F) (b : Int) (h1 : 0 ≤ b) (h2 : b < 16) : iv_en S b := by
  have q := h.bins b h1 h2
  refine ⟨q.2, fun i i1 i2 => ?_⟩
  have e := h.b.be b i h1 h2 i1 i2
  have l := h.lot e.1.1 e.1.2 (by omega)
  exact ⟨e.1, by have := l.2.1; omega⟩
theorem Inv.ent (h : Inv S loc D F) : iv_ent S := fun b i b1 b2 i1 i2 => by
  have e := h.b.be b i b1 b2 i1 i2
  have := h.a.g33
  omega
theorem Inv.holds (h : Inv S loc D F) (s : Int) (h1 : 0 ≤ s) (h2 : s < 12) (h7 : S 7 s = 1) : sq_holds S s = sp_holds S s := by
  have e : iv_e S s → sq_ldg S s = sp_hold0 S s := fun q => by
    obtain ⟨a, b, c, d, e, f, g, i⟩ := q
    unfold sq_ldg sp_hold0
    rw [if_pos a, if_pos b, if_pos c, f, g, i]
    omega
  have w : iv_pt S loc s → sq_ldg S s = sp_hold0 S s := fun q => by
    obtain ⟨a, b, c, d, e, f, g, i, j, -, k⟩ := q
    have n : S 21 s ≠ -1 := by omega
    unfold sq_ldg sp_hold0
    rw [if_neg n, if_pos b, i]
    rcases k with ⟨k1, k2, k3⟩ | ⟨k1, k2, k3, k4⟩ | ⟨k1, k2, k3, k4⟩ | ⟨k1, k2, k3, k4, k5⟩
    · rw [if_neg (by omega), if_pos k3, f]
      omega
    · rw [if_neg (by omega), if_neg (by omega), if_pos k3, f, k4.2.1]
      omega
    · rw [if_neg (by omega), if_neg (by omega), if_pos k3, f, k4.2.1]
      omega
    · rw [if_neg (by omega), if_neg (by omega), if_neg (by omega), f, k4.2.1, k5.2.1]
      omega
  unfold sq_holds sp_holds
  rw [show sq_ldg S s = sp_hold0 S s from ?_]
  rcases h.m.md s h1 h2 h7 with ⟨-, -, q⟩ | ⟨-, -, q⟩ | ⟨-, -, q⟩ | ⟨-, -, q⟩ | ⟨-, -, q⟩
  · exact e q
  · obtain ⟨-, -, -, a, -, -, b, c, d, -⟩ := q
    unfold sq_ldg sp_hold0
    rw [if_pos a, b, c, d]
    omega
  · exact w q
  · exact e q
  · exact q.elim e w
/-- what is wanted of a bin -/
theorem iv_pt_w (q : iv_pt S loc s) (ho : iv_outs S s) (o : Int) (h0 : 0 ≤ o) (h1 : o < S 13 s) : sq_wants S s o ↔ ∃ i, 0 ≤ i ∧ i < S 23 s ∧ S 26 (3 * s + i) = o := by
  obtain ⟨a, b, c, d, e, f, g, i, j, j', k⟩ := q
  have o1 := ho.1
  unfold sq_wants
  constructor
  · rintro ⟨-, w⟩
    rcases w with w | w
    · exact ⟨0, by decide, by omega, by rw [Int.add_zero, e]; exact w.symm⟩
    · rcases (show o = 0 ∨ o = 1 ∨ o = 2 by omega) with rfl | rfl | rfl
      · rw [Int.add_zero, i] at w
        omega
      · rcases k with ⟨k1, k2, k3⟩ | ⟨k1, k2, k3, k4⟩ | ⟨k1, k2, k3, k4⟩ | ⟨k1, k2, k3, k4, k5⟩
        · omega
        · exact ⟨1, by decide, by omega, k4.1⟩
        · omega
        · exact ⟨1, by decide, by omega, k4.1⟩
      · rcases k with ⟨k1, k2, k3⟩ | ⟨k1, k2, k3, k4⟩ | ⟨k1, k2, k3, k4⟩ | ⟨k1, k2, k3, k4, k5⟩
        · omega
        · omega
        · exact ⟨1, by decide, by omega, k4.1⟩
        · exact ⟨2, by decide, by omega, k5.1⟩
  · rintro ⟨p, p1, p2, p3⟩
    refine ⟨by omega, ?_⟩
    rcases (show p = 0 ∨ p = 1 ∨ p = 2 by omega) with rfl | rfl | rfl
    · rw [Int.add_zero, e] at p3
      exact Or.inl p3.symm
    · rcases k with ⟨k1, k2, k3⟩ | ⟨k1, k2, k3, k4⟩ | ⟨k1, k2, k3, k4⟩ | ⟨k1, k2, k3, k4, k5⟩
      · omega
      · rw [k4.1] at p3
        rw [← p3]
        exact Or.inr k1
      · rw [k4.1] at p3
        rw [← p3]
        exact Or.inr k2
      · rw [k4.1] at p3
        rw [← p3]
        exact Or.inr k1
    · rcases k with ⟨k1, k2, k3⟩ | ⟨k1, k2, k3, k4⟩ | ⟨k1, k2, k3, k4⟩ | ⟨k1, k2, k3, k4, k5⟩
      · omega
      · omega
      · omega
      · rw [k5.1] at p3
        rw [← p3]
        exact Or.inr k2
theorem iv_pt_parts (q : iv_pt S loc s) (ho : iv_outs S s) : iv_parts S s := by
  obtain ⟨a, b, c, d, e, f, g, i, j, j', k⟩ := q
  have o1 := ho.1
  have fin : ∀ o, 0 ≤ o → o < S 13 s → (0 ≤ o ∧ o ≤ 2) ∧ (0 ≤ S 14 (3 * s + o) ∧ S 14 (3 * s + o) < 16) := fun o x y => ⟨by omega, (ho.2 o x y).1⟩
  refine ⟨by omega, fun p p1 p2 => ?_⟩
  rcases (show p = 0 ∨ p = 1 ∨ p = 2 by omega) with rfl | rfl | rfl
  · rw [Int.add_zero, e]
    exact fin _ d.1 d.2
  · rcases k with ⟨k1, k2, k3⟩ | ⟨k1, k2, k3, k4⟩ | ⟨k1, k2, k3, k4⟩ | ⟨k1, k2, k3, k4, k5⟩
    · omega
    · rw [k4.1]; exact fin _ (by decide) k4.2.2.2
    · rw [k4.1]; exact fin _ (by decide) k4.2.2.2
    · rw [k4.1]; exact fin _ (by decide) k4.2.2.2
  · rcases k with ⟨k1, k2, k3⟩ | ⟨k1, k2, k3, k4⟩ | ⟨k1, k2, k3, k4⟩ | ⟨k1, k2, k3, k4, k5⟩
    · omega
    · omega
    · omega
    · rw [k5.1]; exact fin _ (by decide) k5.2.2.2
theorem sq_lw_3 (S : az_M) (s b : Int) (h : 0 ≤ S 13 s ∧ S 13 s ≤ 3) : sq_lw S s b = (if 0 < S 13 s then sq_lw1 S s b 0 else 0) + (if 1 < S 13 s then sq_lw1 S s b 1 else 0) + (if 2 < S 13 s then sq_lw1 S s b 2 else 0) := by
  unfold sq_lw
  rcases (show S 13 s = 0 ∨ S 13 s = 1 ∨ S 13 s = 2 ∨ S 13 s = 3 by omega) with e | e | e | e <;> rw [e]
  · rfl
  · show (0 : Int) + sq_lw1 S s b 0 = _
    rw [if_pos (by decide), if_neg (by decide), if_neg (by decide)]; omega
  · show (0 : Int) + sq_lw1 S s b 0 + sq_lw1 S s b 1 = _
    rw [if_pos (by decide), if_pos (by decide), if_neg (by decide)]; omega
  · show (0 : Int) + sq_lw1 S s b 0 + sq_lw1 S s b 1 + sq_lw1 S s b 2 = _
    rw [if_pos (by decide), if_pos (by decide), if_pos (by decide)]; omega
theorem iv_pt_lw (q : iv_pt S loc s) (ho : iv_outs S s) (b : Int) : sq_lw S s b = sp_wants S s b := by
  obtain ⟨a, b', c, d, e, f, g, i, j, j', k⟩ := q
  have o1 := ho.1
  have n : S 21 s ≠ -1 := by omega
  rw [sq_lw_3 S s b o1]
  unfold sp_wants sp_w1 sq_lw1 sq_wants
  simp only [Int.add_zero, e, i]
  rcases k with ⟨k1, k2, k3⟩ | ⟨k1, k2, k3, k4, -, -, k5⟩ | ⟨k1, k2, k3, k4, -, -, k5⟩ | ⟨k1, k2, k3, ⟨k4, -, -, k5⟩, k6, -, -, k7⟩
  · simp only [k1, k2, k3]
    rcases (show S 108 s = 0 ∨ S 108 s = 1 ∨ S 108 s = 2 by omega) with x | x | x <;> simp only [x, Int.add_zero] <;> grind
  · have z := j' (Or.inl k1)
    simp only [k2, k3, k4, z, Int.add_zero]
    grind
  · have z := j' (Or.inr k2)
    simp only [k1, k3, k4, z, Int.add_zero]
    grind
  · have z := j' (Or.inl k1)
    simp only [k3, k4, k6, z, Int.add_zero]
    grind
theorem iv_pt_full (q : iv_pt S loc s) (ho : iv_outs S s) (i o : Int) (e : S 26 (3 * s + i) = o) : sp_full S s i ↔ sq_full S s o := by
  unfold sp_full sq_full
  rw [e, iv_pt_lw q ho]
theorem iv_pt_canPut (q : iv_pt S loc s) (ho : iv_outs S s) : sq_canPut S s ↔ sp_canPut S s := by
  have hp := iv_pt_parts q ho
  have hw := iv_pt_w q ho
  have hf := iv_pt_full q ho
  have hn : S 23 s ≠ 0 ∧ sq_newLots S s = S 23 s - 1 ∧ ∀ i, 0 ≤ i → i < S 23 s → S 26 (3 * s + i) < S 13 s := by
    obtain ⟨a, b, c, d, e, f, g, i, j, j', k⟩ := q
    unfold sq_newLots
    rw [i, if_neg (by decide)]
    rcases k with ⟨k1, k2, k3⟩ | ⟨k1, k2, k3, k4⟩ | ⟨k1, k2, k3, k4⟩ | ⟨k1, k2, k3, k4, k5⟩
    · rw [k1, k2]
      refine ⟨by omega, by rw [k3]; decide, fun p p1 p2 => ?_⟩
      rw [show p = 0 by omega, Int.add_zero, e]; omega
    · rw [if_pos k1, k2]
      refine ⟨by omega, by rw [k3]; decide, fun p p1 p2 => ?_⟩
      rcases (show p = 0 ∨ p = 1 by omega) with rfl | rfl
      · rw [Int.add_zero, e]; omega
      · rw [k4.1]; exact k4.2.2.2
    · rw [k1, if_pos k2]
      refine ⟨by omega, by rw [k3]; decide, fun p p1 p2 => ?_⟩
      rcases (show p = 0 ∨ p = 1 by omega) with rfl | rfl
      · rw [Int.add_zero, e]; omega
      · rw [k4.1]; exact k4.2.2.2
    · rw [if_pos k1, if_pos k2]
      refine ⟨by omega, by rw [k3]; decide, fun p p1 p2 => ?_⟩
      rcases (show p = 0 ∨ p = 1 ∨ p = 2 by omega) with rfl | rfl | rfl
      · rw [Int.add_zero, e]; omega
      · rw [k4.1]; exact k4.2.2.2
      · rw [k5.1]; exact k5.2.2.2
  unfold sq_canPut sp_canPut
  constructor
  · rintro ⟨x, y⟩
    refine ⟨fun i i1 i2 w => ?_, Or.inr (by omega)⟩
    have z := (hp.2 i i1 i2).1
    have z1 := hn.2.2 i i1 i2
    exact y _ z.1 z1 ⟨(hw _ z.1 z1).mpr ⟨i, i1, i2, rfl⟩, (hf i _ rfl).mp w⟩
  · rintro ⟨x, y⟩
    refine ⟨by omega, fun o o1 o2 w => ?_⟩
    obtain ⟨i, i1, i2, i3⟩ := (hw o o1 o2).mp w.1
    exact x i i1 i2 ((hf i o i3).mpr w.2)
theorem Inv.cst (h : Inv S loc D F) (s : Int) (h1 : 0 ≤ s) (h2 : s < 12) (h7 : S 7 s = 1) : iv_cst S s := by
  have li := h.l.li s h1 h2 h7
  have m := h.m.md s h1 h2 h7
  refine ⟨li.2, h.ld s h1 h2, li.1, by omega, fun c => ?_⟩
  rcases m with ⟨x, -⟩ | ⟨x, -⟩ | ⟨-, -, q⟩ | ⟨x, -⟩ | ⟨x, -⟩
  · omega
  · omega
  · exact iv_pt_canPut q li.2
  · omega
  · omega
theorem Inv.ins (h : Inv S loc D F) (s : Int) (h1 : 0 ≤ s) (h2 : s < 12) : iv_ins S s := by
  have h7 := h.l.s7 s h1 h2
  by_cases c : S 7 s = 1
  · have q := (h.l.li s h1 h2 c).1
    exact ⟨q.1, fun x => by have := (q.2 0 (by decide) x).1; rw [Int.add_zero] at this; exact this, fun x => (q.2 1 (by decide) x).1⟩
  · have q := h.l.un s h1 h2 (by omega)
    have e := q.2.1
    refine ⟨by omega, fun x => by omega, fun x => by omega⟩
theorem Inv.parts (h : Inv S loc D F) (s : Int) (h1 : 0 ≤ s) (h2 : s < 12) : iv_parts S s := by
  have h7 := h.l.s7 s h1 h2
  have e : iv_e S s → iv_parts S s := fun q => by
    have := q.2.2.1
    exact ⟨by omega, fun i i1 i2 => by omega⟩
  by_cases c : S 7 s = 1
  · have li := h.l.li s h1 h2 c
    rcases h.m.md s h1 h2 c with ⟨-, -, q⟩ | ⟨-, -, q⟩ | ⟨-, -, q⟩ | ⟨-, -, q⟩ | ⟨-, -, q⟩
    · exact e q
    · have := q.2.2.2.1
      exact ⟨by omega, fun i i1 i2 => by omega⟩
    · exact iv_pt_parts q li.2
    · exact e q
    · rcases q with q | q
      · exact e q
      · exact iv_pt_parts q li.2
  · exact e (h.m.mu s h1 h2 (by omega)).2.2.1
theorem Inv.m18 (h : Inv S loc D F) (s : Int) (h1 : 0 ≤ s) (h2 : s < 12) : 0 ≤ S 18 s ∧ S 18 s ≤ 4 := by
  have h7 := h.l.s7 s h1 h2
  by_cases c : S 7 s = 1
  · have := h.m.md s h1 h2 c
    omega
  · have := (h.m.mu s h1 h2 (by omega)).1
    omega
theorem Inv.qu (h : Inv S loc D F) (s : Int) (h1 : 0 ≤ s) (h2 : s < 12) : iv_qu S s := ⟨h.l.s7 s h1 h2, h.m18 s h1 h2, h.ins s h1 h2, h.parts s h1 h2⟩
theorem Inv.hold (h : Inv S loc D F) (s : Int) (h1 : 0 ≤ s) (h2 : s < 12) : iv_hold S s := by
  have q := h.ld s h1 h2
  exact ⟨h.l.s7 s h1 h2, (h.parts s h1 h2).1, q.1, q.2.1⟩
theorem Inv.lay (h : Inv S loc D F) (s : Int) (h1 : 0 ≤ s) (h2 : s < 12) : iv_lay S s := by
  have h7 := h.l.s7 s h1 h2
  by_cases c : S 7 s = 1
  · have q := h.l.la s h1 h2 c
    exact ⟨h7, q.1, q.2.2.2.2.1, q.2.2.2.2.2, h.l.sh s h1 h2 c⟩
  · have q := h.l.un s h1 h2 (by omega)
    have i1 := sp_insOf_b (S := S) s
    have i2 := sp_outsOf_b (S := S) s 0
    exact ⟨h7, by omega, by omega, by omega, fun x => by omega⟩
theorem Inv.rg (h : Inv S loc D F) : iv_rg S := ⟨h.bins, h.l.r12, fun s h1 h2 => ⟨h.l.s7 s h1 h2, h.m18 s h1 h2, (h.ins s h1 h2).1, h.parts s h1 h2⟩⟩
theorem Inv.go (h : Inv S loc D F) : iv_go S := fun s h1 h2 => by
  have h7 := h.l.s7 s h1 h2
  refine ⟨h7, h.m18 s h1 h2, ?_⟩
  by_cases c : S 7 s = 1
  · rcases h.m.md s h1 h2 c with ⟨-, -, q⟩ | ⟨-, -, q⟩ | ⟨-, -, q⟩ | ⟨-, -, q⟩ | ⟨-, -, q⟩
    · have := q.2.2.2.1; omega
    · have := q.2.2.2.2.1; omega
    · have := q.2.2.1; omega
    · have := q.2.2.2.1; omega
    · rcases q with q | q
      · have := q.2.2.2.1; omega
      · have := q.2.2.1; omega
  · have := (h.m.mu s h1 h2 (by omega)).2.2.1.2.2.2.1
    omega
theorem Inv.cgo (h : Inv S loc D F) : iw_go S := fun s h1 h2 c => by
  have g := h.a.g33
  refine ⟨h.m18 s h1 h2, fun d => ?_⟩
  rcases h.m.md s h1 h2 c with ⟨x, -⟩ | ⟨x, -⟩ | ⟨x, -⟩ | ⟨x, -⟩ | ⟨x, y, q⟩
  · omega
  · omega
  · omega
  · omega
  · refine ⟨y, ?_⟩
    rcases q with q | q
    · have e1 := q.1
      have e2 := q.2.2.2.1
      exact ⟨by omega, Or.inr ⟨by omega, e1⟩⟩
    · have e1 := q.1.1
      have e2 := q.2.2.1
      exact ⟨by omega, Or.inl ⟨e2, by omega⟩⟩
theorem Inv.kind (h : Inv S loc D F) (h0 : S 0 0 = 1) (s : Int) (h1 : 0 ≤ s) (h2 : s < 12) (c : S 7 s = 1) : iv_kind S s := by
  obtain ⟨q1, q2, q3, q4, q5, q6⟩ := h.l.la s h1 h2 c
  rw [sp_fits_iff] at q2
  have st := h.l.st h0 s h1 h2 c
  refine ⟨q1, q2.1, q2.2.1, q2.2.2.1, q2.2.2.2, q3, fun k => ?_, fun g g1 g2 => (h.m.le s g h1 h2 g1 g2).1⟩
  have sh := h.l.sh s h1 h2 c k
  have o0 : sp_outsOf S s 0 = 3 := by
    unfold sp_outsOf
    rw [if_neg (by omega), if_pos k, if_pos rfl]
  have o1 : sp_outsOf S s 1 = 2 := by
    unfold sp_outsOf
    rw [if_neg (by omega), if_pos k, if_neg (by decide)]
  have sm := st.2.2 k
  have d : S 13 s = 2 ∨ S 13 s = 3 := by omega
  refine ⟨d, by have := sh 1 (by decide) (by omega); omega, fun e => ?_⟩
  have a0 := sh 0 (by decide) (by omega)
  rw [Int.add_zero] at a0
  have a1 := sh 1 (by decide) (by omega)
  have a2 := sh 2 (by decide) (by omega)
  have es : sp_shs S s = S 15 (3 * s) + S 15 (3 * s + 1) + S 15 (3 * s + 2) := by
    unfold sp_shs
    rw [e]
    show (0 : Int) + S 15 (3 * s + 0) + S 15 (3 * s + 1) + S 15 (3 * s + 2) = _
    rw [Int.add_zero]
    omega
  omega
theorem Inv.gb (h : Inv S loc D F) (s : Int) (h1 : 0 ≤ s) (h2 : s < 12) (h0 : S 0 0 = 1) (c : S 7 s = 1) (w : iv_wk S loc s) : iw_gb S s := by
  have li := (h.l.li s h1 h2 c).1
  have g := h.a.g33
  have st := (h.l.st h0 s h1 h2 c).1
  obtain ⟨a, b, d, e1, e2, e3, e4, e5, e6, rm⟩ := w
  have i1 := sp_insOf_b (S := S) s
  have l0 := li.2 0 (by decide) (by omega)
  rw [Int.add_zero] at l0
  have r0 := rm 0 (by decide) (by omega)
  rw [Int.add_zero] at r0
  have k0 := h.b.b3 _ l0.1.1 l0.1.2
  have n0 := h.bins _ l0.1.1 l0.1.2
  by_cases k : S 8 s = 4
  · have io : S 11 s = 2 := by
      rw [st]
      unfold sp_insOf
      rw [if_pos k]
    have l1 := li.2 1 (by decide) (by omega)
    have r1 := rm 1 (by decide) (by omega)
    have k1 := h.b.b3 _ l1.1.1 l1.1.2
    have n1 := h.bins _ l1.1.1 l1.1.2
    have d := d k
    have ne : S 12 (2 * s + 1) ≠ S 12 (2 * s) := fun q => by
      have := h.l.sd h0 s s 1 0 h1 h2 h1 h2 c c (by decide) (by omega) (by decide) (by omega) (by rw [Int.add_zero]; exact q)
      omega
    exact ⟨li, ⟨Or.inr ⟨by omega, by omega, l0.1, n0.2⟩, Or.inr ⟨by omega, by omega, l1.1, n1.2, ne⟩⟩, fun _ => by omega, fun _ => by omega, by omega, e3, e4, e5, e6⟩
  · have b := b k
    exact ⟨li, ⟨Or.inr ⟨by omega, by omega, l0.1, n0.2⟩, Or.inl b⟩, fun _ => by omega, fun q => absurd b q, by omega, e3, e4, e5, e6⟩
theorem Inv.wk (h : Inv S loc D F) (s : Int) (h1 : 0 ≤ s) (h2 : s < 12) (c : S 7 s = 1) (m : S 18 s = 1) : (1 ≤ S 19 s ∧ S 19 s ≤ 20) ∧ iv_wk S loc s := by
  rcases h.m.md s h1 h2 c with ⟨x, -⟩ | ⟨-, y, q⟩ | ⟨x, -⟩ | ⟨x, -⟩ | ⟨x, -⟩
  · omega
  · exact ⟨y, q⟩
  · omega
  · omega
  · omega
theorem Inv.pt (h : Inv S loc D F) (s : Int) (h1 : 0 ≤ s) (h2 : s < 12) (c : S 7 s = 1) (m : S 18 s = 2) : S 19 s = 0 ∧ iv_pt S loc s := by
  rcases h.m.md s h1 h2 c with ⟨x, -⟩ | ⟨x, -⟩ | ⟨-, y, q⟩ | ⟨x, -⟩ | ⟨x, -⟩
  · omega
  · omega
  · exact ⟨y, q⟩
  · omega
  · omega
theorem Inv.cst2 (h : Inv S loc D F) (h0 : S 0 0 = 1) : iw_st S 0 := by
  have g := h.a.g33
  refine ⟨⟨h.b.r5, fun s s1 s2 => ?_, h.l.sd h0, fun s s1 s2 c m => ?_⟩, fun s s1 s2 c m => ?_⟩
  · have q := h.ld s s1 s2
    exact ⟨h.l.s7 s s1 s2, h.m18 s s1 s2, q.1.1, q.2.1.1⟩
  · exact (h.gb s s1 s2 h0 c (h.wk s s1 s2 c m).2).2.1
  · exact h.gb s s1 s2 h0 c (h.wk s s1 s2 c m).2
end IvC
