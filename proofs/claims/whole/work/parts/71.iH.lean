-- deps: 30.mK 31.mL 32.mM 34.mN 37.mQ 38.mR 39.mS 43.cls 44.sta 44.stb 44.stc 44.std 45.cA 46.cB 47.cC 48.cD 49.cE 50.cF 54.cI 55.cJ 58.cM 59.cN 43.raw 51.cG 53.cH 56.cK 57.cL 52.cG2 60.cO 62.cQ 64.iA 65.iB 66.iC 67.iD 68.iE 69.iF 70.iG 34.mN2 34.mN3 35.mO 36.mP 33.mM2
section IvH
variable {S S1 : az_M} {loc : Int → Int} {D F : Nat} {s b l : Int}
theorem iv_hasAll (hi : iv_inb S s) : sp_hasAll S s ↔ ∀ i, 0 ≤ i → i < S 11 s → S 4 (S 12 (2 * s + i)) ≠ 0 := by
  unfold sp_hasAll
  constructor
  · rintro ⟨a, b⟩ i i1 i2
    have := hi.1
    rcases (show i = 0 ∨ i = 1 by omega) with rfl | rfl
    · rw [Int.add_zero]; exact a i2
    · exact b i2
  · intro q
    refine ⟨fun x => ?_, fun x => q 1 (by decide) x⟩
    have := q 0 (by decide) x
    rw [Int.add_zero] at this
    exact this
theorem Inv.take (h : Inv S loc D F) (h0 : S 0 0 = 1) (h1 : 0 ≤ s) (h2 : s < 12) (c : S 7 s = 1) (m : S 18 s = 0) (ha : sp_hasAll S s) : ∃ loc', Inv (sp_bgU S s) loc' D F := by
  have g33 := h.a.g33
  have li := (h.l.li s h1 h2 c).1
  have la := h.l.la s h1 h2 c
  have st := (h.l.st h0 s h1 h2 c).1
  have ib := sp_insOf_b (S := S) s
  have ha := (iv_hasAll li).mp ha
  have em : iv_e S s := by
    rcases h.m.md s h1 h2 c with ⟨-, -, q⟩ | ⟨x, -⟩ | ⟨x, -⟩ | ⟨x, -⟩ | ⟨x, -⟩
    · exact q
    · omega
    · omega
    · omega
    · omega
  obtain ⟨e1, e2, e3, e4, e5, e6, e7, e8⟩ := em
  have l0 := li.2 0 (by decide) (by omega)
  rw [Int.add_zero] at l0
  have a0 := ha 0 (by decide) (by omega)
  rw [Int.add_zero] at a0
  have b40 := h.b.b4 _ l0.1.1 l0.1.2
  have en0 := h.b.be (S 12 (2 * s)) 0 l0.1.1 l0.1.2 (by decide) (by omega)
  rw [Int.add_zero] at en0
  have B1 := h.b.takes (b := S 12 (2 * s)) (by omega) l0.1.1 l0.1.2 (by omega) (20 + s)
  have hr4 : ∀ i, sp_bg1 S s 4 i ≤ S 4 i := fun i => by
    rw [sp_bg1_4]
    split <;> omega
  by_cases k : S 8 s = 4
  · have io : S 11 s = 2 := by
      rw [st]
      unfold sp_insOf
      rw [if_pos k]
    have l1 := li.2 1 (by decide) (by omega)
    have a1 := ha 1 (by decide) (by omega)
    have b41 := h.b.b4 _ l1.1.1 l1.1.2
    have en1 := h.b.be (S 12 (2 * s + 1)) 0 l1.1.1 l1.1.2 (by decide) (by omega)
    rw [Int.add_zero] at en1
    have ne : S 12 (2 * s + 1) ≠ S 12 (2 * s) := fun q => by
      have := h.l.sd h0 s s 1 0 h1 h2 h1 h2 c c (by decide) (by omega) (by decide) (by omega) (by rw [Int.add_zero]; exact q)
      omega
    have nl : S 5 (40 * S 12 (2 * s)) ≠ S 5 (40 * S 12 (2 * s + 1)) := fun q => by
      have := en0.2
      rw [q, en1.2] at this
      omega
    have b1k := fun (k1 : Nat) (i : Int) (a : k1 ≠ 5 ∧ k1 ≠ 4 ∧ k1 ≠ 21) => sp_bg1_k (S := S) (s := s) (i := i) a.1 a.2.1 a.2.2
    have B1' : iB (sp_bg1 S s) (lc loc (S 5 (40 * S 12 (2 * s))) (20 + s)) := iB_cg B1 (fun k1 i q => by
      unfold sp_bg1
      rw [az_up_kn (by omega)])
    have f41 : sp_bg1 S s 4 (S 12 (2 * s + 1)) = S 4 (S 12 (2 * s + 1)) := by rw [sp_bg1_4, if_neg ne]
    have f51 : sp_bg1 S s 5 (40 * S 12 (2 * s + 1)) = S 5 (40 * S 12 (2 * s + 1)) := by
      have q3 := h.b.b3 _ l0.1.1 l0.1.2
      rw [sp_bg1_5, sp_takes_5, if_neg (by omega)]
    have B2 := B1'.takes (b := S 12 (2 * s + 1)) (by rw [b1k 0 _ (by decide)]; omega) l1.1.1 l1.1.2 (by rw [f41]; omega) (20 + s)
    rw [f51] at B2
    have eb : sp_bg2 S s = az_up (sp_takes (sp_bg1 S s) (S 12 (2 * s + 1))) 22 s (S 5 (40 * S 12 (2 * s + 1))) := by
      unfold sp_bg2
      rw [if_pos io, f51]
    have eU : sp_bgU S s = az_up (az_up (az_up (sp_takes (sp_bg1 S s) (S 12 (2 * s + 1))) 22 s (S 5 (40 * S 12 (2 * s + 1)))) 18 s 1) 19 s (S 10 s) := by
      unfold sp_bgU
      rw [eb]
    rw [eU]
    have K : ∀ (k1 : Nat) (i : Int), k1 ≠ 4 ∧ k1 ≠ 5 ∧ k1 ≠ 18 ∧ k1 ≠ 19 ∧ k1 ≠ 21 ∧ k1 ≠ 22 → az_up (az_up (az_up (sp_takes (sp_bg1 S s) (S 12 (2 * s + 1))) 22 s (S 5 (40 * S 12 (2 * s + 1)))) 18 s 1) 19 s (S 10 s) k1 i = S k1 i := fun k1 i a => by
      rw [az_up_kn a.2.2.2.1, az_up_kn a.2.2.1, az_up_kn a.2.2.2.2.2, sp_takes_k a.2.1 a.1, sp_bg1_k a.2.1 a.1 a.2.2.2.2.1]
    have g21 : ∀ i, az_up (az_up (az_up (sp_takes (sp_bg1 S s) (S 12 (2 * s + 1))) 22 s (S 5 (40 * S 12 (2 * s + 1)))) 18 s 1) 19 s (S 10 s) 21 i = if i = s then S 5 (40 * S 12 (2 * s)) else S 21 i := fun i => by
      rw [az_up_kn (by decide), az_up_kn (by decide), az_up_kn (by decide), sp_takes_k (by decide) (by decide)]
      unfold sp_bg1
      rw [az_up_at, sp_takes_k (by decide) (by decide)]
    have g22 : ∀ i, az_up (az_up (az_up (sp_takes (sp_bg1 S s) (S 12 (2 * s + 1))) 22 s (S 5 (40 * S 12 (2 * s + 1)))) 18 s 1) 19 s (S 10 s) 22 i = if i = s then S 5 (40 * S 12 (2 * s + 1)) else S 22 i := fun i => by
      rw [az_up_kn (by decide), az_up_kn (by decide), az_up_at, sp_takes_k (by decide) (by decide), b1k 22 _ (by decide)]
    have g18 : ∀ i, az_up (az_up (az_up (sp_takes (sp_bg1 S s) (S 12 (2 * s + 1))) 22 s (S 5 (40 * S 12 (2 * s + 1)))) 18 s 1) 19 s (S 10 s) 18 i = if i = s then 1 else S 18 i := fun i => by
      rw [az_up_kn (by decide), az_up_at, az_up_kn (by decide), sp_takes_k (by decide) (by decide), b1k 18 _ (by decide)]
    have g19 : ∀ i, az_up (az_up (az_up (sp_takes (sp_bg1 S s) (S 12 (2 * s + 1))) 22 s (S 5 (40 * S 12 (2 * s + 1)))) 18 s 1) 19 s (S 10 s) 19 i = if i = s then S 10 s else S 19 i := fun i => by
      rw [az_up_at, az_up_kn (by decide), az_up_kn (by decide), sp_takes_k (by decide) (by decide), b1k 19 _ (by decide)]
    have g4 : ∀ i, az_up (az_up (az_up (sp_takes (sp_bg1 S s) (S 12 (2 * s + 1))) 22 s (S 5 (40 * S 12 (2 * s + 1)))) 18 s 1) 19 s (S 10 s) 4 i = if i = S 12 (2 * s + 1) then S 4 i - 1 else if i = S 12 (2 * s) then S 4 i - 1 else S 4 i := fun i => by
      rw [az_up_kn (by decide), az_up_kn (by decide), az_up_kn (by decide), sp_takes_4]
      split
      · rename_i e
        rw [e, f41]
      · rw [sp_bg1_4]
    generalize hS1 : az_up (az_up (az_up (sp_takes (sp_bg1 S s) (S 12 (2 * s + 1))) 22 s (S 5 (40 * S 12 (2 * s + 1)))) 18 s 1) 19 s (S 10 s) = S1 at K g21 g22 g18 g19 g4
    refine ⟨_, h.move h0 h1 h2 c K (fun k1 i a q => ?_) (iB_cg B2 (fun k1 i q => ?_)) ?_ (fun x x1 x2 => ?_) ⟨e6, e7, e8⟩ (fun t i t1 t2 t3 t4 t5 i1 i2 => ?_)⟩
    · rcases q with rfl | rfl | rfl | rfl
      · rw [g18, if_neg a]
      · rw [g19, if_neg a]
      · rw [g21, if_neg a]
      · rw [g22, if_neg a]
    · rw [← hS1, az_up_kn (by omega), az_up_kn (by omega), az_up_kn (by omega)]
    · rw [g18, if_pos rfl, g19, if_pos rfl]
      refine Or.inr (Or.inl ⟨rfl, la.2.2.2.1, ⟨?_, ?_⟩, ?_, ?_, ?_, ?_, ?_, ?_, ?_, ?_, ?_⟩)
      · rw [g21, if_pos rfl, K 33 _ (by decide)]; exact en0.1
      · rw [g21, if_pos rfl, lc_n nl, lc_y]
      · rw [K 8 _ (by decide)]; exact fun q => absurd k q
      · rw [K 8 _ (by decide), g22, if_pos rfl, g21, if_pos rfl, K 33 _ (by decide), lc_y]
        exact fun _ => ⟨en1.1, rfl, nl⟩
      · rw [K 23 _ (by decide)]; exact e3
      · rw [K 20 _ (by decide)]; exact e4
      · rw [K 108 _ (by decide)]; exact e5
      · rw [K 109 _ (by decide)]; exact e6
      · rw [K 109 _ (by decide)]; exact e7
      · rw [K 109 _ (by decide)]; exact e8
      · intro i i1 i2
        rw [K 11 _ (by decide)] at i2
        rw [K 12 _ (by decide), K 3 _ (by decide), g4]
        rcases (show i = 0 ∨ i = 1 by omega) with rfl | rfl
        · rw [Int.add_zero, if_neg (fun q => ne q.symm), if_pos rfl]
          omega
        · rw [if_pos rfl]
          omega
    · unfold lc
      refine ⟨?_, fun t t1 t2 t3 => ?_⟩
      · split
        · rename_i e
          rw [e, en1.2]
          omega
        · split
          · rename_i e
            rw [e, en0.2]
            omega
          · exact Iff.rfl
      · rw [if_neg (fun e => by rw [e, en1.2] at t3; omega), if_neg (fun e => by rw [e, en0.2] at t3; omega)]
        exact t3
    · rw [g4]
      split
      · omega
      · split <;> omega
  · have io : S 11 s = 1 := by
      rw [st]
      unfold sp_insOf
      rw [if_neg k]
    have eb : sp_bg2 S s = sp_bg1 S s := by
      unfold sp_bg2
      rw [if_neg (by omega)]
    have eU : sp_bgU S s = az_up (az_up (az_up (sp_takes S (S 12 (2 * s))) 21 s (S 5 (40 * S 12 (2 * s)))) 18 s 1) 19 s (S 10 s) := by
      unfold sp_bgU
      rw [eb]
      rfl
    rw [eU]
    have K : ∀ (k1 : Nat) (i : Int), k1 ≠ 4 ∧ k1 ≠ 5 ∧ k1 ≠ 18 ∧ k1 ≠ 19 ∧ k1 ≠ 21 ∧ k1 ≠ 22 → az_up (az_up (az_up (sp_takes S (S 12 (2 * s))) 21 s (S 5 (40 * S 12 (2 * s)))) 18 s 1) 19 s (S 10 s) k1 i = S k1 i := fun k1 i a => by
      rw [az_up_kn a.2.2.2.1, az_up_kn a.2.2.1, az_up_kn a.2.2.2.2.1, sp_takes_k a.2.1 a.1]
    have g21 : ∀ i, az_up (az_up (az_up (sp_takes S (S 12 (2 * s))) 21 s (S 5 (40 * S 12 (2 * s)))) 18 s 1) 19 s (S 10 s) 21 i = if i = s then S 5 (40 * S 12 (2 * s)) else S 21 i := fun i => by
      rw [az_up_kn (by decide), az_up_kn (by decide), az_up_at, sp_takes_k (by decide) (by decide)]
    have g22 : ∀ i, az_up (az_up (az_up (sp_takes S (S 12 (2 * s))) 21 s (S 5 (40 * S 12 (2 * s)))) 18 s 1) 19 s (S 10 s) 22 i = S 22 i := fun i => by
      rw [az_up_kn (by decide), az_up_kn (by decide), az_up_kn (by decide), sp_takes_k (by decide) (by decide)]
    have g18 : ∀ i, az_up (az_up (az_up (sp_takes S (S 12 (2 * s))) 21 s (S 5 (40 * S 12 (2 * s)))) 18 s 1) 19 s (S 10 s) 18 i = if i = s then 1 else S 18 i := fun i => by
      rw [az_up_kn (by decide), az_up_at, az_up_kn (by decide), sp_takes_k (by decide) (by decide)]
    have g19 : ∀ i, az_up (az_up (az_up (sp_takes S (S 12 (2 * s))) 21 s (S 5 (40 * S 12 (2 * s)))) 18 s 1) 19 s (S 10 s) 19 i = if i = s then S 10 s else S 19 i := fun i => by
      rw [az_up_at, az_up_kn (by decide), az_up_kn (by decide), sp_takes_k (by decide) (by decide)]
    have g4 : ∀ i, az_up (az_up (az_up (sp_takes S (S 12 (2 * s))) 21 s (S 5 (40 * S 12 (2 * s)))) 18 s 1) 19 s (S 10 s) 4 i = if i = S 12 (2 * s) then S 4 (S 12 (2 * s)) - 1 else S 4 i := fun i => by
      rw [az_up_kn (by decide), az_up_kn (by decide), az_up_kn (by decide), sp_takes_4]
    generalize hS1 : az_up (az_up (az_up (sp_takes S (S 12 (2 * s))) 21 s (S 5 (40 * S 12 (2 * s)))) 18 s 1) 19 s (S 10 s) = S1 at K g21 g22 g18 g19 g4
    refine ⟨_, h.move h0 h1 h2 c K (fun k1 i a q => ?_) (iB_cg B1 (fun k1 i q => ?_)) ?_ (fun x x1 x2 => ?_) ⟨e6, e7, e8⟩ (fun t i t1 t2 t3 t4 t5 i1 i2 => ?_)⟩
    · rcases q with rfl | rfl | rfl | rfl
      · rw [g18, if_neg a]
      · rw [g19, if_neg a]
      · rw [g21, if_neg a]
      · rw [g22]
    · rw [← hS1, az_up_kn (by omega), az_up_kn (by omega), az_up_kn (by omega)]
    · rw [g18, if_pos rfl, g19, if_pos rfl]
      refine Or.inr (Or.inl ⟨rfl, la.2.2.2.1, ⟨?_, ?_⟩, ?_, ?_, ?_, ?_, ?_, ?_, ?_, ?_, ?_⟩)
      · rw [g21, if_pos rfl, K 33 _ (by decide)]; exact en0.1
      · rw [g21, if_pos rfl, lc_y]
      · rw [g22]; exact fun _ => e2
      · rw [K 8 _ (by decide)]; exact fun q => absurd q k
      · rw [K 23 _ (by decide)]; exact e3
      · rw [K 20 _ (by decide)]; exact e4
      · rw [K 108 _ (by decide)]; exact e5
      · rw [K 109 _ (by decide)]; exact e6
      · rw [K 109 _ (by decide)]; exact e7
      · rw [K 109 _ (by decide)]; exact e8
      · intro i i1 i2
        rw [K 11 _ (by decide)] at i2
        rw [K 12 _ (by decide), K 3 _ (by decide), g4, show i = 0 by omega, Int.add_zero, if_pos rfl]
        omega
    · unfold lc
      refine ⟨?_, fun t t1 t2 t3 => ?_⟩
      · split
        · rename_i e
          rw [e, en0.2]
          omega
        · exact Iff.rfl
      · rw [if_neg (fun e => by rw [e, en0.2] at t3; omega)]
        exact t3
    · rw [g4]
      split
      · rename_i e
        rw [e]
        omega
      · omega
end IvH
