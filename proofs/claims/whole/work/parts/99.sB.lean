-- deps: 30.mK 31.mL 32.mM 34.mN 37.mQ 38.mR 39.mS 40.mT 41.mU 42.mV 43.cls 44.sta 44.stb 44.stc 44.std 45.cA 46.cB 47.cC 48.cD 49.cE 50.cF 54.cI 55.cJ 58.cM 59.cN 43.raw 51.cG 53.cH 56.cK 57.cL 52.cG2 60.cO 61.cP 62.cQ 64.iA 65.iB 66.iC 67.iD 68.iE 69.iF 70.iG 34.mN2 34.mN3 35.mO 36.mP 33.mM2 99.sA
/-! ===== the public calls, both sides: those that make nothing new ===== -/
section PbB
variable {S S' : az_M} {loc : Int → Int} {D F : Nat} {s t : Int}
/-- a call that turns S into S' and gives v on both sides, with the same ghost -/
def Turns (S S' : az_M) (jr jc : Nat) (as : List Value) (v : Value) : Prop := (∀ (n r : Nat) (f : Nat → az_C) (z : Nat × Nat), az_ex az_T (n + 8) jr (.ref r :: as) (az_RH r S f, z) (some v) (az_RH r S' f, z)) ∧ (∀ (G : cz_G), cz_W G S → cz_W G S' ∧ ∀ (n : Nat) (f : Nat → az_C) (z : Nat × Nat), az_ex az_T (n + 8) jc (.ref (G.ad 1) :: as) (cz_H G S f, z) (some v) (cz_H G S' f, z)) ∧ (S' 0 0 = 0 → S 0 0 = 0)
theorem P_from (h : Inv S loc D F) (s b : Int) (hs : i32 s) (hb : i32 b) : ∃ (S' : az_M) (v : Int), Inv S' loc D F ∧ Turns S S' 142 112 [.int (Int32.ofInt s), .int (Int32.ofInt b)] (.int (Int32.ofInt v)) := by
  have hi : ∀ i, 0 ≤ i → i < 12 → S 7 i = 1 → (0 ≤ S 8 i ∧ S 8 i ≤ 5) ∧ 0 ≤ S 11 i ∧ S 11 i ≤ sp_insOf S i := fun i a b c => ⟨(h.l.la i a b c).1, (h.l.la i a b c).2.2.2.2.1⟩
  have key : ∃ (S' : az_M) (v : Int), Inv S' loc D F ∧ ((v = S 11 s + 1 ∧ S' = sp_fromU S s b ∧ sp_fromC S s b) ∨ (v = -1 ∧ S' = S ∧ ¬ sp_fromC S s b)) ∧ (∀ G, cz_W G S → cz_W G S') ∧ (S' 0 0 = 0 → S 0 0 = 0) := by
    by_cases c : sp_fromC S s b
    · exact ⟨_, _, h.from c, Or.inl ⟨rfl, rfl, c⟩, fun G hW => cz_W_cg hW (fun _ => by unfold sp_fromU; simp (disch := decide) only [az_up_kn]) (fun _ => by unfold sp_fromU; simp (disch := decide) only [az_up_kn]) (by unfold sp_fromU; simp (disch := decide) only [az_up_kn]), fun q => by unfold sp_fromU at q; simp (disch := decide) only [az_up_kn] at q; exact q⟩
    · exact ⟨S, -1, h, Or.inr ⟨rfl, rfl, c⟩, fun _ w => w, fun q => q⟩
  obtain ⟨S', v, iv, hv, hw, mo⟩ := key
  exact ⟨S', v, iv, fun n _ _ _ => cm_from (n := n + 5) s b hs hb h.a.g0 h.l.s7 h.b.b3 hi v S' hv, fun G hW => ⟨hw G hW, fun n _ _ => cm_cfrom (n := n + 5) s b hs hb hW h.a.g0 hi v S' hv⟩, mo⟩
theorem P_to (h : Inv S loc D F) (s b k : Int) (hs : i32 s) (hb : i32 b) (hk : i32 k) : ∃ (S' : az_M) (v : Int), Inv S' loc D F ∧ Turns S S' 143 113 [.int (Int32.ofInt s), .int (Int32.ofInt b), .int (Int32.ofInt k)] (.int (Int32.ofInt v)) := by
  have hi : ∀ i, 0 ≤ i → i < 12 → S 7 i = 1 → (0 ≤ S 8 i ∧ S 8 i ≤ 5) ∧ 0 ≤ S 13 i ∧ S 13 i ≤ sp_outsOf S i 0 := fun i a b c => ⟨(h.l.la i a b c).1, (h.l.la i a b c).2.2.2.2.2⟩
  have key : ∃ (S' : az_M) (v : Int), Inv S' loc D F ∧ ((v = S 13 s + 1 ∧ S' = sp_toU S s b k ∧ sp_toC S s b k) ∨ (v = -1 ∧ S' = S ∧ ¬ sp_toC S s b k)) ∧ (∀ G, cz_W G S → cz_W G S') ∧ (S' 0 0 = 0 → S 0 0 = 0) := by
    by_cases c : sp_toC S s b k
    · exact ⟨_, _, h.to c, Or.inl ⟨rfl, rfl, c⟩, fun G hW => cz_W_cg hW (fun _ => by unfold sp_toU; simp (disch := decide) only [az_up_kn]) (fun _ => by unfold sp_toU; simp (disch := decide) only [az_up_kn]) (by unfold sp_toU; simp (disch := decide) only [az_up_kn]), fun q => by unfold sp_toU at q; simp (disch := decide) only [az_up_kn] at q; exact q⟩
    · exact ⟨S, -1, h, Or.inr ⟨rfl, rfl, c⟩, fun _ w => w, fun q => q⟩
  obtain ⟨S', v, iv, hv, hw, mo⟩ := key
  exact ⟨S', v, iv, fun n _ _ _ => cm_to (n := n + 5) s b k hs hb hk h.a.g0 h.l.s7 h.b.b3 hi v S' hv, fun G hW => ⟨hw G hW, fun n _ _ => cm_cto (n := n + 4) s b k hs hb hk hW h.a.g0 hi v S' hv⟩, mo⟩
theorem P_rule (h : Inv S loc D F) (s t w m : Int) (hs : i32 s) (ht : i32 t) (hw : i32 w) (hm : i32 m) : ∃ (S' : az_M) (v : Int), Inv S' loc D F ∧ Turns S S' 152 118 [.int (Int32.ofInt s), .int (Int32.ofInt t), .int (Int32.ofInt w), .int (Int32.ofInt m)] (.int (Int32.ofInt v)) := by
  have key : ∃ (S' : az_M) (v : Int), Inv S' loc D F ∧ ((v = 1 ∧ S' = sp_ruleU S s t w m ∧ sp_ruleC S s t w m) ∨ (v = 0 ∧ S' = S ∧ ¬ sp_ruleC S s t w m)) ∧ (∀ G, cz_W G S → cz_W G S') ∧ (S' 0 0 = 0 → S 0 0 = 0) := by
    by_cases c : sp_ruleC S s t w m
    · exact ⟨_, _, h.rule c, Or.inl ⟨rfl, rfl, c⟩, fun G hW => cz_W_cg hW (fun _ => by unfold sp_ruleU; simp (disch := decide) only [az_up_kn]) (fun _ => by unfold sp_ruleU; simp (disch := decide) only [az_up_kn]) (by unfold sp_ruleU; simp (disch := decide) only [az_up_kn]), fun q => by unfold sp_ruleU at q; simp (disch := decide) only [az_up_kn] at q; exact q⟩
    · exact ⟨S, 0, h, Or.inr ⟨rfl, rfl, c⟩, fun _ w => w, fun q => q⟩
  obtain ⟨S', v, iv, hv, hW', mo⟩ := key
  exact ⟨S', v, iv, fun n _ _ _ => cm_rule (n := n + 5) s t w m hs ht hw hm h.l.s7 v S' hv, fun G hW => ⟨hW' G hW, fun n _ _ => cm_crule (n := n + 6) s t w m hs ht hw hm hW v S' hv⟩, mo⟩
theorem P_plan (h : Inv S loc D F) (s m t : Int) (hs : i32 s) (hm : i32 m) (ht : i32 t) : ∃ (S' : az_M) (v : Int), Inv S' loc D F ∧ Turns S S' 151 117 [.int (Int32.ofInt s), .int (Int32.ofInt m), .int (Int32.ofInt t)] (.int (Int32.ofInt v)) := by
  have g2 := h.a.g2
  have he : ∀ i, 0 ≤ i → i < 12 → -2147483648 ≤ S 28 i ∧ S 28 i < 2147483648 := fun i a b => by have := h.p.en i a b; omega
  have key : ∃ (S' : az_M) (v : Int), Inv S' loc D F ∧ ((v = 1 ∧ S' = sp_planU S s m t ∧ sp_planC S s m t ∧ sp_planN S s m) ∨ (v = 0 ∧ S' = S ∧ ¬ (sp_planC S s m t ∧ sp_planN S s m))) ∧ (∀ G, cz_W G S → cz_W G S') ∧ (S' 0 0 = 0 → S 0 0 = 0) := by
    by_cases c : sp_planC S s m t ∧ sp_planN S s m
    · exact ⟨_, _, h.plan c.1 c.2, Or.inl ⟨rfl, rfl, c⟩, fun G hW => cz_W_cg hW (fun _ => by unfold sp_planU; simp (disch := decide) only [az_up_kn]) (fun _ => by unfold sp_planU; simp (disch := decide) only [az_up_kn]) (by unfold sp_planU; simp (disch := decide) only [az_up_kn]), fun q => by unfold sp_planU at q; simp (disch := decide) only [az_up_kn] at q; exact q⟩
    · exact ⟨S, 0, h, Or.inr ⟨rfl, rfl, c⟩, fun _ w => w, fun q => q⟩
  obtain ⟨S', v, iv, hv, hW', mo⟩ := key
  exact ⟨S', v, iv, fun n _ _ _ => cm_plan (n := n + 5) s m t hs hm ht h.l.s7 he h.p.pl v S' hv, fun G hW => ⟨hW' G hW, fun n _ _ => cm_cplan (n := n + 5) s m t hs hm ht hW he h.p.pl v S' hv⟩, mo⟩
theorem P_divert (h : Inv S loc D F) (s i b : Int) (hs : i32 s) (hi : i32 i) (hb : i32 b) : ∃ (S' : az_M) (v : Int), Inv S' loc D F ∧ Turns S S' 176 121 [.int (Int32.ofInt s), .int (Int32.ofInt i), .int (Int32.ofInt b)] (.int (Int32.ofInt v)) := by
  have ho : ∀ i, 0 ≤ i → i < 12 → 0 ≤ S 13 i ∧ S 13 i ≤ 3 := fun i a b => by
    have := h.l.s7 i a b
    by_cases c : S 7 i = 1
    · exact (h.l.li i a b c).2.1
    · have := (h.l.un i a b (by omega)).2.2.1
      omega
  have key : ∃ (S' : az_M) (v : Int), Inv S' loc D F ∧ ((v = 1 ∧ S' = sp_divU S s i b ∧ sp_divC S s i b) ∨ (v = 0 ∧ S' = S ∧ ¬ sp_divC S s i b)) ∧ (∀ G, cz_W G S → cz_W G S') ∧ (S' 0 0 = 0 → S 0 0 = 0) := by
    by_cases c : sp_divC S s i b
    · exact ⟨_, _, h.divert c, Or.inl ⟨rfl, rfl, c⟩, fun G hW => cz_W_cg hW (fun _ => by unfold sp_divU; simp (disch := decide) only [az_up_kn]) (fun _ => by unfold sp_divU; simp (disch := decide) only [az_up_kn]) (by unfold sp_divU; simp (disch := decide) only [az_up_kn]), fun q => by unfold sp_divU at q; simp (disch := decide) only [az_up_kn] at q; exact q⟩
    · exact ⟨S, 0, h, Or.inr ⟨rfl, rfl, c⟩, fun _ w => w, fun q => q⟩
  obtain ⟨S', v, iv, hv, hW', mo⟩ := key
  exact ⟨S', v, iv, fun n _ _ _ => cm_divert (n := n + 5) s i b hs hi hb h.a.g0 h.l.s7 h.b.b3 ho v S' hv, fun G hW => ⟨hW' G hW, fun n _ _ => cm_cdivert (n := n + 5) s i b hs hi hb hW h.a.g0 (fun i a b _ => ho i a b) v S' hv⟩, mo⟩
theorem P_stands (h : Inv S loc D F) : ∃ (S' : az_M) (v : Int), Inv S' loc D F ∧ Turns S S' 146 114 [] (.int (Int32.ofInt v)) := by
  have g0 := h.a.g0
  have sb := sp_sum_b (g := S 7) (B := 1) 12 (fun i a b => h.l.s7 i a b)
  have key : ∃ (S' : az_M) (v : Int), Inv S' loc D F ∧ ((v = -1 ∧ S' = S ∧ (S 0 0 = 1 ∨ sp_sum (S 7) 12 = 0)) ∨ (v = sp_lkF S 12 0 ∧ S' = (if sp_lkF S 12 0 = 0 then az_up S 0 0 1 else S) ∧ ¬ (S 0 0 = 1 ∨ sp_sum (S 7) 12 = 0))) ∧ (∀ G, cz_W G S → cz_W G S') ∧ (S' 0 0 = 0 → S 0 0 = 0) := by
    by_cases c : S 0 0 = 1 ∨ sp_sum (S 7) 12 = 0
    · exact ⟨S, -1, h, Or.inl ⟨rfl, rfl, c⟩, fun _ w => w, fun q => q⟩
    · by_cases d : sp_lkF S 12 0 = 0
      · exact ⟨az_up S 0 0 1, sp_lkF S 12 0, h.stands (by omega) d, Or.inr ⟨rfl, by rw [if_pos d], c⟩, fun G hW => cz_W_cg hW (fun _ => az_up_kn (by decide)) (fun _ => az_up_kn (by decide)) (az_up_kn (by decide)), fun q => by rw [az_up_ee] at q; exact absurd q (by decide)⟩
      · exact ⟨S, sp_lkF S 12 0, h, Or.inr ⟨rfl, by rw [if_neg d], c⟩, fun _ w => w, fun q => q⟩
  obtain ⟨S', v, iv, hv, hW', mo⟩ := key
  have tn := h.l.tn
  exact ⟨S', v, iv, fun n _ _ _ => cm_stands (n := n + 5) g0 h.l.s7 (fun _ => h.lay) h.l.r12 v S' hv, fun G hW => ⟨hW' G hW, fun n _ _ => cm_cstands (n := n + 2) g0 hW tn (by omega) (fun _ => h.lay) h.l.r12 (sp_lkF_b 12 0 (by decide) (by decide)) v S' hv⟩, mo⟩
end PbB
