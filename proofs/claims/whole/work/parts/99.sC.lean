-- deps: 30.mK 31.mL 32.mM 34.mN 37.mQ 38.mR 39.mS 40.mT 41.mU 42.mV 43.cls 44.sta 44.stb 44.stc 44.std 45.cA 46.cB 47.cC 48.cD 49.cE 50.cF 54.cI 55.cJ 58.cM 59.cN 43.raw 51.cG 53.cH 56.cK 57.cL 52.cG2 60.cO 61.cP 62.cQ 64.iA 65.iB 66.iC 67.iD 68.iE 69.iF 70.iG 72.iI 75.iL 76.iM 77.iN 79.iR 80.iS 81.iT 82.iU 83.iV 84.iW 34.mN2 34.mN3 35.mO 36.mP 33.mM2 99.sA 99.sB
/-! ===== the public calls, both sides: command, count ===== -/
section PbC
variable {S S' : az_M} {loc : Int → Int} {D F : Nat} {s t : Int}
theorem sp_goF_fr {k : Nat} {j : Int} (h : k ≠ 18) : ∀ (m : Nat) (i : Int) (S : az_M), sp_goF m i S k j = S k j
  | 0, _, _ => rfl
  | m + 1, i, S => by
    show sp_goF m (i + 1) (sp_go1 S i) k j = S k j
    rw [sp_goF_fr h m (i + 1)]
    unfold sp_go1
    split
    · exact az_up_kn h
    · rfl
theorem sp_cmd_fr {k : Nat} {j w : Int} (h : k = 0 ∨ k = 3 ∨ k = 7 ∨ k = 33) : sp_cmd S w k j = S k j := by
  unfold sp_cmd
  split
  · unfold sp_stops
    exact sp_stF_fr (by omega) 12 0 S
  · split
    · exact az_up_kn (by omega)
    · rw [sp_goF_fr (by omega), az_up_kn (by omega)]
theorem P_command (h : Inv S loc D F) (w : Int) (hw : i32 w) : ∃ (S' : az_M) (loc' : Int → Int) (v : Int), Inv S' loc' D F ∧ Turns S S' 175 120 [.int (Int32.ofInt w)] (.int (Int32.ofInt v)) := by
  have key : ∃ (S' : az_M) (loc' : Int → Int) (v : Int), Inv S' loc' D F ∧ ((v = 1 ∧ S' = sp_cmd S w ∧ (S 0 0 = 1 ∧ 0 ≤ w ∧ w ≤ 2)) ∨ (v = 0 ∧ S' = S ∧ ¬ (S 0 0 = 1 ∧ 0 ≤ w ∧ w ≤ 2))) ∧ (∀ G, cz_W G S → cz_W G S') ∧ (S' 0 0 = 0 → S 0 0 = 0) := by
    by_cases c : S 0 0 = 1 ∧ 0 ≤ w ∧ w ≤ 2
    · obtain ⟨loc', iv⟩ := h.cmd c.1 w
      exact ⟨_, loc', 1, iv, Or.inl ⟨rfl, rfl, c⟩, fun G hW => cz_W_cg hW (fun _ => sp_cmd_fr (by decide)) (fun _ => sp_cmd_fr (by decide)) (sp_cmd_fr (by decide)), fun q => by rw [sp_cmd_fr (by decide)] at q; exact q⟩
    · exact ⟨S, loc, 0, h, Or.inr ⟨rfl, rfl, c⟩, fun _ w => w, fun q => q⟩
  obtain ⟨S', loc', v, iv, hv, hW', mo⟩ := key
  exact ⟨S', loc', v, iv, fun n _ _ _ => cm_command (n := n + 4) w hw h.a.g0 (fun q => (h.cst2 q).1) h.go v S' hv, fun G hW => ⟨hW' G hW, fun n _ _ => cm_ccommand (n := n + 3) w hw h.a.g0 hW h.cst2 h.cgo v S' hv⟩, mo⟩
theorem sm_z {g : Int → Int} : ∀ (k m : Nat), (∀ j : Int, m ≤ j → j < m + k → g j = 0) → sp_sum g (m + k) = sp_sum g m
  | 0, _, _ => rfl
  | k + 1, m, h => by
    show sp_sum g (m + k) + g ((m + k : Nat) : Int) = _
    rw [sm_z k m (fun j a b => h j a (by omega)), h _ (by omega) (by omega), Int.add_zero]
theorem sm_n {g : Int → Int} : ∀ m : Nat, (∀ j : Int, 0 ≤ j → j < m → 0 ≤ g j ∧ g j ≤ 1) → sp_sum (fun p => if g p = 1 then 0 else 1) m = m - sp_sum g m
  | 0, _ => rfl
  | m + 1, h => by
    show sp_sum (fun p => if g p = 1 then 0 else 1) m + (if g m = 1 then 0 else 1) = ((m + 1 : Nat) : Int) - (sp_sum g m + g m)
    rw [sm_n m (fun j a b => h j a (by omega))]
    have := h m (by omega) (by omega)
    split <;> omega
theorem P_count (h : Inv S loc D F) (w : Int) (hw : i32 w) : ∃ v : Int, Asks S 189 131 [.int (Int32.ofInt w)] (.int (Int32.ofInt v)) := by
  have p40 := h.p.pl.1
  have h6 : S 38 0 - S 102 0 = sp_cnt6 S := by
    unfold sp_cnt6
    rw [sm_n (g := S 42) (S 38 0).toNat (fun j a b => h.p.pb j a (by omega)), h.p.pc]
    have e := sm_z (g := S 42) (40 - (S 38 0).toNat) (S 38 0).toNat (fun j a b => h.p.pz j (by omega) (by omega))
    rw [show (S 38 0).toNat + (40 - (S 38 0).toNat) = 40 by omega] at e
    rw [e]
    omega
  exact ⟨sp_count S w, fun n _ _ _ => cm_count (n := n + 7) w hw h.a.g0 h.a.g1 h.l.s7 (by omega) h.p.pb, fun _ n _ _ _ => cm_ccount (n := n + 7) w hw h.a.g0 h.a.g1 h.l.tn h6⟩
end PbC
