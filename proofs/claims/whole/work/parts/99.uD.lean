-- deps: 30.mK 31.mL 34.mN 37.mQ 43.cls 44.sta 44.stb 44.stc 44.std 45.cA 46.cB 47.cC 48.cD 50.cF 54.cI 58.cM 43.raw 51.cG 53.cH 56.cK 57.cL 99.uA 99.uB 99.uC 64.iA 65.iB 99.tA 99.tB 99.tC
/-! ===== what holds at first ===== -/
section UD
variable {a : Nat}
theorem S0_iA : iA S0 := by
  unfold iA
  simp (disch := decide) only [S0_z]
  decide
theorem S0_iZ : iZ S0 := by
  refine ⟨fun i _ => ?_, fun l h1 h2 => ?_⟩
  · simp (disch := decide) only [S0_z]
    decide
  · rw [S0_z (by decide)] at h2
    omega
theorem S0_iB : iB S0 (fun _ => 0) := by
  refine ⟨fun b _ _ => ?_, fun b _ _ => ?_, fun b _ _ => ?_, fun i _ _ => ?_, fun b i _ _ h1 h2 => ?_, fun b i j _ _ h1 h2 h3 => ?_, fun _ i _ _ => S0_z (by decide), fun _ b _ _ => ⟨S0_z (by decide), S0_z (by decide)⟩⟩
  · simp (disch := decide) only [S0_z]
    omega
  · simp (disch := decide) only [S0_z]
    decide
  · simp (disch := decide) only [S0_z]
    omega
  · simp (disch := decide) only [S0_z]
    omega
  · rw [S0_z (by decide)] at h2
    omega
  · rw [S0_z (by decide)] at h3
    omega
theorem S0_7 {s : Int} (h : S0 7 s = 1) : False := by
  rw [S0_z (by decide)] at h
  omega
theorem S0_0 (h : S0 0 0 = 1) : False := by
  rw [S0_z (by decide)] at h
  omega
theorem S0_e {s : Int} (h1 : 0 ≤ s) (h2 : s < 12) : iv_e S0 s := by
  unfold iv_e
  rw [S0_21 ⟨h1, h2⟩, S0_22 ⟨h1, h2⟩]
  simp (disch := decide) only [S0_z]
  decide
theorem S0_iL : iL S0 := by
  refine ⟨fun s _ _ => ?_, fun i _ _ => ?_, fun s _ _ h => (S0_7 h).elim, fun s _ _ h => (S0_7 h).elim, fun s _ _ h => (S0_7 h).elim, fun s _ _ h => (S0_7 h).elim, fun h => (S0_0 h).elim, fun h => (S0_0 h).elim, fun s h1 h2 _ => ?_, ?_⟩
  · simp (disch := decide) only [S0_z]
    omega
  · simp (disch := decide) only [S0_z]
    omega
  · rw [S0_17 ⟨h1, h2⟩]
    refine ⟨S0_z (by decide), S0_z (by decide), S0_z (by decide), rfl, fun i _ _ => S0_z (by decide), fun i _ _ => ⟨S0_z (by decide), S0_z (by decide), S0_z (by decide)⟩⟩
  · decide +kernel
theorem S0_iM : iM S0 (fun _ => 0) := by
  refine ⟨fun s _ _ h => (S0_7 h).elim, fun _ s _ _ => S0_z (by decide), fun s h1 h2 _ => ⟨S0_z (by decide), S0_z (by decide), S0_e h1 h2, S0_z (by decide), S0_z (by decide), S0_z (by decide), S0_z (by decide), S0_z (by decide)⟩, fun s g _ _ _ _ => ?_⟩
  simp (disch := decide) only [S0_z]
  decide
theorem S0_iP : iP S0 (fun _ => 0) := by
  refine ⟨⟨?_, fun p _ _ => ?_⟩, fun p _ _ => ?_, fun p _ _ => S0_z (by decide), fun p h1 h2 => ?_, fun p q h1 h2 h3 => ?_, fun s _ _ => ?_, ?_, ?_, fun i h1 h2 => ?_, fun s _ _ => ?_⟩
  · simp (disch := decide) only [S0_z]
    omega
  · simp (disch := decide) only [S0_z]
    omega
  · simp (disch := decide) only [S0_z]
    omega
  · rw [S0_z (by decide)] at h2
    omega
  · rw [S0_z (by decide)] at h3
    omega
  · simp (disch := decide) only [S0_z]
    omega
  · decide +kernel
  · simp (disch := decide) only [S0_z]
    omega
  · rw [S0_z (by decide)] at h2
    omega
  · simp (disch := decide) only [S0_z]
    omega
theorem S0_iQ : iQ S0 (fun _ => 0) 0 0 := by
  refine ⟨?_, ?_, by omega⟩
  · rw [S0_z (k := 33) (by decide)]
    decide +kernel
  · rw [S0_z (k := 33) (by decide)]
    decide +kernel
theorem S0_inv : Inv S0 (fun _ => 0) 0 0 := ⟨S0_iA, S0_iZ, S0_iB, S0_iL, S0_iM, S0_iP, S0_iQ⟩
theorem G0_cd {x : Nat} : (G0 a).cd x = g0_cd a x := rfl
theorem g0_lt {x : Nat} : g0_cd a x < 23 := by
  unfold g0_cd
  split <;> omega
theorem g0_out {x : Nat} (h : a + 22 ≤ x) : g0_cd a x = 0 := if_neg (by omega)
theorem G0_W : cz_W (G0 a) S0 := by
  refine ⟨fun b _ _ h => ?_, fun b _ _ _ => Bool.false_ne_true, fun s _ _ h => (S0_7 h).elim, fun s _ _ _ => Bool.false_ne_true, ?_⟩
  · rw [S0_z (by decide)] at h
    omega
  · rw [S0_z (by decide)]
    exact ⟨by decide, (show (0 : Int) ≤ ((64 : Nat) : Int) by decide), (show ((64 : Nat) : Int) ≤ 1500 by decide)⟩
theorem G0_V : cz_V (G0 a) := by
  refine ⟨fun b _ _ _ x => ?_, fun s _ _ _ j _ x => ?_, fun i h => (Bool.false_ne_true h).elim, fun i h => (Bool.false_ne_true h).elim⟩
  · rw [G0_cd]
    have := g0_lt (a := a) (x := x)
    omega
  · rw [G0_cd]
    have := g0_lt (a := a) (x := x)
    omega
theorem G0_rz {z : Nat × Nat} : rz (G0 a) z z.1 z.2 := by
  have e1 : nbG (G0 a) = 0 := rfl
  have e2 : nsG (G0 a) = 0 := rfl
  unfold rz
  rw [e1, e2]
  have e3 : cz_k1 (G0 a).len = 0 := by
    show cz_k1 64 = 0
    decide
  have e4 : cz_k2 (G0 a).len = 0 := by
    show cz_k2 64 = 0
    decide
  rw [e3, e4]
  omega
theorem G0_LI {z : Nat × Nat} (hz : z.1 = a + 67) : LI (a + 22) S0 (G0 a) z z.1 z.2 0 := ⟨⟨_, 0, S0_inv⟩, G0_W, fun _ => G0_V, ⟨fun x h => g0_out (by omega), Or.inl rfl⟩, G0_rz, fun x h _ => g0_out h, by omega⟩
end UD
