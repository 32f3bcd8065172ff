-- deps: 30.mK 31.mL 32.mM 34.mN 37.mQ 38.mR 39.mS 40.mT 41.mU 42.mV 43.cls 44.sta 44.stb 44.stc 44.std 45.cA 46.cB 47.cC 48.cD 49.cE 50.cF 54.cI 55.cJ 58.cM 59.cN 43.raw 51.cG 53.cH 56.cK 57.cL 52.cG2 60.cO 61.cP 62.cQ 64.iA 65.iB 66.iC 67.iD 68.iE 69.iF 70.iG 34.mN2 34.mN3 35.mO 36.mP 33.mM2
/-! ===== the public calls, both sides: those that only ask ===== -/
section PbA
variable {S S' : az_M} {loc : Int → Int} {D F : Nat} {s t : Int}
def i32 (x : Int) : Prop := -2147483648 ≤ x ∧ x < 2147483648
/-- a call that changes nothing and gives v on both sides -/
def Asks (S : az_M) (jr jc : Nat) (as : List Value) (v : Value) : Prop := (∀ (n r : Nat) (f : Nat → az_C) (z : Nat × Nat), az_ex az_T (n + 8) jr (.ref r :: as) (az_RH r S f, z) (some v) (az_RH r S f, z)) ∧ (∀ (G : cz_G) (n : Nat) (f : Nat → az_C) (z : Nat × Nat), cz_W G S → az_ex az_T (n + 8) jc (.ref (G.ad 1) :: as) (cz_H G S f, z) (some v) (cz_H G S f, z))
theorem Inv.c102 (h : Inv S loc D F) : 0 ≤ S 102 0 ∧ S 102 0 ≤ 40 := by
  have := h.p.pc
  have := sp_sum_b (g := S 42) (B := 1) 40 (fun i a b => h.p.pb i a (by omega))
  omega
theorem P_sacks (g : Int) (hg : i32 g) : ∃ v : Int, Asks S 182 126 [.int (Int32.ofInt g)] (.int (Int32.ofInt v)) := ⟨sp_sacks S g, fun n _ _ _ => cm_sacks (n := n + 6) g hg, fun _ n _ _ _ => cm_csacks (n := n + 6) g hg⟩
theorem P_part (h : Inv S loc D F) (l o : Int) (hl : i32 l) (ho : i32 o) : ∃ v : Int, Asks S 181 125 [.int (Int32.ofInt l), .int (Int32.ofInt o)] (.int (Int32.ofInt v)) := ⟨sp_partq S l o, fun n _ _ _ => cm_partq (n := n + 6) l o hl ho h.a.g33, fun _ n _ _ hW => cm_cpartq (n := n + 5) l o hl ho hW⟩
theorem P_aside (h : Inv S loc D F) (i w : Int) (hi : i32 i) (hw : i32 w) : ∃ v : Int, Asks S 183 127 [.int (Int32.ofInt i), .int (Int32.ofInt w)] (.int (Int32.ofInt v)) := by
  have c := h.c102
  have a := h.p.as
  have g := h.a.g33
  exact ⟨sp_aside S i w, fun n _ _ _ => cm_aside (n := n + 6) i w hi hw (by omega) (fun a b => by have := (h.p.al i a b).1; omega), fun _ n _ _ hW => cm_caside (n := n + 6) i w hi hw (by omega) (fun i a b => (h.p.al i a b).2.2)⟩
theorem P_level (h : Inv S loc D F) (b w : Int) (hb : i32 b) (hw : i32 w) : ∃ v : Int, Asks S 180 124 [.int (Int32.ofInt b), .int (Int32.ofInt w)] (.int (Int32.ofInt v)) := by
  by_cases c : (0 ≤ b ∧ b ≤ 15) ∧ 0 < S 3 b
  · exact ⟨sp_level S b w, fun n _ _ _ => cm_levelY (n := n + 5) b w (by omega) c.2 h.bins h.ent hw, fun _ n _ _ hW => cm_clevelY (n := n + 4) b w hW hw (h.en b (by omega) (by omega)) c⟩
  · exact ⟨-1, fun n _ _ _ => cm_levelN (n := n + 5) b w hb h.bins c, fun _ n _ _ hW => cm_clevelN (n := n + 4) b w hW hb c⟩
theorem P_in (h : Inv S loc D F) (b i w : Int) (hb : i32 b) (hi : i32 i) (hw : i32 w) : ∃ v : Int, Asks S 179 123 [.int (Int32.ofInt b), .int (Int32.ofInt i), .int (Int32.ofInt w)] (.int (Int32.ofInt v)) := by
  by_cases c : sp_inC S b i
  · have q : 0 ≤ b ∧ b < 16 ∧ 0 ≤ i ∧ i < S 4 b := by unfold sp_inC at c; omega
    exact ⟨sp_in S b i w, fun n _ _ _ => cm_inY (n := n + 5) b i w h.bins hw (h.ent b i q.1 q.2.1 q.2.2.1 q.2.2.2) c, fun _ n _ _ hW => cm_cinY (n := n + 5) b i w hW hw (h.en b q.1 q.2.1) c⟩
  · exact ⟨-1, fun n _ _ _ => cm_inN (n := n + 5) b i w h.bins hb hi c, fun _ n _ _ hW => cm_cinN (n := n + 5) b i w hW hb hi (fun a b => (h.bins _ a b).2) c⟩
theorem P_state (h : Inv S loc D F) (s w : Int) (hs : i32 s) (hw : i32 w) : ∃ v : Int, Asks S 178 122 [.int (Int32.ofInt s), .int (Int32.ofInt w)] (.int (Int32.ofInt v)) := by
  by_cases c : (0 ≤ s ∧ s ≤ 11) ∧ S 7 s = 1
  · have s1 : 0 ≤ s := c.1.1
    have s2 : s < 12 := by omega
    have ou := (h.l.li s s1 s2 c.2).2
    have ho := h.hold s s1 s2
    refine ⟨sp_state S s w, fun n _ _ _ => cm_stateY (n := n + 5) s w ⟨s1, s2⟩ c.2 h.l.s7 (h.m18 s s1 s2) ou.1 hw ho.2.1 ho.2.2.1 ho.2.2.2, fun _ n _ _ hW => cm_cstateY (n := n + 3) s w hW c hw ou (h.hd s s1 s2) (fun q => ?_) (h.holds s s1 s2 c.2)⟩
    rcases h.m.md s s1 s2 c.2 with ⟨x, y, -⟩ | ⟨x, y, -⟩ | ⟨x, y, -⟩ | ⟨x, y, -⟩ | ⟨x, y, -⟩
    · exact y
    · exact absurd (Or.inl x) q
    · exact y
    · exact absurd (Or.inr x) q
    · exact y
  · exact ⟨-1, fun n _ _ _ => cm_stateN (n := n + 5) s w hs h.l.s7 c, fun _ n _ _ hW => cm_cstateN (n := n + 3) s w hW hs c⟩
theorem P_total (h : Inv S loc D F) (w : Int) (hw : i32 w) : ∃ v : Int, Asks S 184 128 [.int (Int32.ofInt w)] (.long (Int64.ofInt v)) := ⟨sp_total S w, fun n _ _ _ => cm_total (n := n + 6) w hw h.bins h.ent h.hold, fun _ n _ _ hW => cm_ctotal (n := n + 2) w hw hW (fun b b1 b2 q => ((h.b.b4 b b1 b2).2 q).1) h.en (fun s a b _ => h.hd s a b) h.holds⟩
theorem P_quiet (h : Inv S loc D F) : ∃ v : Int, Asks S 185 129 [] (.int (Int32.ofInt v)) := by
  have g0 := h.a.g0
  have key : ∃ v : Int, (v = -1 ∧ S 0 0 = 0) ∨ (S 0 0 = 1 ∧ ((v = 1 ∧ ∀ s, 0 ≤ s → s < 12 → ¬ sp_moves S s) ∨ (v = 0 ∧ ∃ s, 0 ≤ s ∧ s < 12 ∧ sp_moves S s))) := by
    by_cases c : S 0 0 = 0
    · exact ⟨-1, Or.inl ⟨rfl, c⟩⟩
    · by_cases d : ∃ s, 0 ≤ s ∧ s < 12 ∧ sp_moves S s
      · exact ⟨0, Or.inr ⟨by omega, Or.inr ⟨rfl, d⟩⟩⟩
      · exact ⟨1, Or.inr ⟨by omega, Or.inl ⟨rfl, fun s a b q => d ⟨s, a, b, q⟩⟩⟩⟩
  obtain ⟨v, hv⟩ := key
  exact ⟨v, fun n _ _ _ => cm_quiet (n := n + 4) g0 h.bins h.a.g33 (fun _ => h.qu) v hv, fun _ n _ _ hW => cm_cquiet (n := n + 1) g0 hW (fun _ => h.cst) h.bins v hv⟩
end PbA
