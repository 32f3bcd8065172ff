-- deps: 30.mK 31.mL 32.mM 34.mN 37.mQ 38.mR 39.mS 43.cls 44.sta 44.stb 44.stc 44.std 45.cA 46.cB 47.cC 48.cD 49.cE 50.cF 54.cI 55.cJ 58.cM 59.cN 43.raw 51.cG 53.cH 56.cK 57.cL 52.cG2 60.cO 62.cQ 64.iA 65.iB 99.tA
/-! ===== the room of a new bin, a new stage ===== -/
section LwB
variable {r : Nat} {G G' : cz_G} {S S' : az_M} {f f' : Nat → az_C} {z z' : Nat × Nat} {a c : Int}
theorem tb_i (hW : cz_W G S) {i : Int} (h0 : 0 ≤ i) (h1 : i < 16) : G.tb i = true ↔ 0 < S 3 i := by
  constructor
  · intro h
    apply Classical.byContradiction
    intro q
    exact hW.2.1 i h0 h1 q h
  · intro h
    exact (hW.1 i h0 h1 h).2.1
theorem ts_i (hW : cz_W G S) {i : Int} (h0 : 0 ≤ i) (h1 : i < 12) : G.ts i = true ↔ S 7 i = 1 := by
  constructor
  · intro h
    apply Classical.byContradiction
    intro q
    exact hW.2.2.2.1 i h0 h1 q h
  · intro h
    exact (hW.2.2.1 i h0 h1 h).2.1
theorem sm_cgL {g h : Int → Int} : ∀ m : Nat, (∀ j : Int, 0 ≤ j → j < m → g j = h j) → sp_sum g m = sp_sum h m
  | 0, _ => rfl
  | m + 1, q => by
    show sp_sum g m + g m = sp_sum h m + h m
    rw [sm_cgL m (fun j a b => q j a (by omega)), q m (by omega) (by omega)]
theorem nbG_S (hW : cz_W G S) : nbG G = sp_sum (fun b => if 0 < S 3 b then 1 else 0) 16 := sm_cgL 16 (fun j a b => by
  have q := tb_i hW a b
  by_cases w : 0 < S 3 j
  · show (if G.tb j = true then (1 : Int) else 0) = if 0 < S 3 j then 1 else 0
    rw [if_pos w, if_pos (q.mpr w)]
  · show (if G.tb j = true then (1 : Int) else 0) = if 0 < S 3 j then 1 else 0
    rw [if_neg w, if_neg (fun x => w (q.mp x))])
theorem nsG_S (hW : cz_W G S) : nsG G = sp_sum (fun b => if S 7 b = 1 then 1 else 0) 12 := sm_cgL 12 (fun j a b => by
  have q := ts_i hW a b
  by_cases w : S 7 j = 1
  · show (if G.ts j = true then (1 : Int) else 0) = if S 7 j = 1 then 1 else 0
    rw [if_pos w, if_pos (q.mpr w)]
  · show (if G.ts j = true then (1 : Int) else 0) = if S 7 j = 1 then 1 else 0
    rw [if_neg w, if_neg (fun x => w (q.mp x))])
theorem rz_bin {b x : Int} (h : rz G z a c) (hW : cz_W G S) (hW' : cz_W G' (az_up S 3 b x)) (hY : cz_Y G z G' z') (hz : z' = (z.1 + 2, z.2 + 25)) (hc : sp_binC S b x) : rz G' z' a c := by
  obtain ⟨-, c1, c2, c3⟩ := hc
  have e1 : nbG G' = nbG G + 1 := by
    rw [nbG_S hW, nbG_S hW', sm_up (g := fun b => if 0 < S 3 b then 1 else 0) b 16 (by omega) (by omega) (fun j _ _ n => by show (if 0 < az_up S 3 b x 3 j then (1 : Int) else 0) = _; rw [az_up_en n])]
    show _ - (if 0 < S 3 b then (1 : Int) else 0) + (if 0 < az_up S 3 b x 3 b then 1 else 0) = _
    rw [az_up_ee, if_neg (by omega), if_pos (by omega)]
    omega
  have e2 : nsG G' = nsG G := by
    rw [nsG_S hW, nsG_S hW']
    exact sm_cgL 12 (fun j _ _ => by show (if az_up S 3 b x 7 j = 1 then (1 : Int) else 0) = _; rw [az_up_kn (by decide)])
  unfold rz at *
  rw [e1, e2, hY.2.2.1, hz]
  show ((z.1 + 2 : Nat) : Int) = _ ∧ ((z.2 + 25 : Nat) : Int) = _
  omega
theorem rz_stage {s k x m : Int} (h : rz G z a c) (hW : cz_W G S) (hW' : cz_W G' (az_up (sp_stageU S s k x m) 100 0 (S 100 0 + 1))) (hY : cz_Y G z G' z') (hz : z' = (z.1 + 8, z.2 + 48)) (hc : sp_stageC S s k x m) : rz G' z' a c := by
  obtain ⟨-, c1, c2, -⟩ := hc
  have k3 : ∀ j, az_up (sp_stageU S s k x m) 100 0 (S 100 0 + 1) 3 j = S 3 j := fun j => by
    unfold sp_stageU
    simp (disch := decide) only [az_up_kn]
  have k7 : ∀ j, az_up (sp_stageU S s k x m) 100 0 (S 100 0 + 1) 7 j = if j = s then 1 else S 7 j := fun j => by
    unfold sp_stageU
    simp (disch := decide) only [az_up_kn, az_up_at]
  have e1 : nbG G' = nbG G := by
    rw [nbG_S hW, nbG_S hW']
    exact sm_cgL 16 (fun j _ _ => by rw [k3])
  have e2 : nsG G' = nsG G + 1 := by
    rw [nsG_S hW, nsG_S hW', sm_up (g := fun b => if S 7 b = 1 then 1 else 0) s 12 (by omega) (by omega) (fun j _ _ n => by
      show (if az_up (sp_stageU S s k x m) 100 0 (S 100 0 + 1) 7 j = 1 then (1 : Int) else 0) = _
      rw [k7, if_neg n])]
    show _ - (if S 7 s = 1 then (1 : Int) else 0) + (if az_up (sp_stageU S s k x m) 100 0 (S 100 0 + 1) 7 s = 1 then 1 else 0) = _
    rw [k7, if_pos rfl, if_neg (show ¬ S 7 s = 1 by omega), if_pos rfl]
    omega
  unfold rz at *
  rw [e1, e2, hY.2.2.1, hz]
  show ((z.1 + 8 : Nat) : Int) = _ ∧ ((z.2 + 48 : Nat) : Int) = _
  omega
end LwB
