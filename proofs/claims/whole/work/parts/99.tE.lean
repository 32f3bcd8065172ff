-- deps: 30.mK 31.mL 32.mM 34.mN 37.mQ 38.mR 39.mS 43.cls 44.sta 44.stb 44.stc 44.std 45.cA 46.cB 47.cC 48.cD 49.cE 50.cF 54.cI 55.cJ 58.cM 59.cN 43.raw 51.cG 53.cH 56.cK 57.cL 52.cG2 60.cO 61.cP 62.cQ 64.iA 65.iB 66.iC 67.iD 68.iE 69.iF 70.iG 71.iH 72.iI 73.iJ 74.iK 75.iL 76.iM 77.iN 79.iR 80.iS 81.iT 82.iU 83.iV 84.iW 85.iX 86.bA 87.bB 88.bC 34.mN2 34.mN3 35.mO 36.mP 33.mM2 40.mT 41.mU 42.mV 89.bD 90.rA 91.rB 92.rC 93.rD 94.rE 95.rF 96.rG 97.rH 98.rI 99.rJ 99.sA 99.sB 99.sC 99.sD 99.tA 99.tB 99.tC 99.tD
/-! ===== each call as a step: beat, ring, and the rest ===== -/
section LwE
variable {r : Nat} {G G' : cz_G} {S S' : az_M} {f f' : Nat → az_C} {z z' : Nat × Nat} {a c : Int} {F F' : Nat}
theorem ST_beat (h : LI r S G z a c F) (k : Int) (hk : i32 k) : ∃ v : Int, ST r S G z a c F 174 119 [.int (Int32.ofInt k)] (.int (Int32.ofInt v)) := by
  obtain ⟨loc, D, iv⟩ := h.iv
  obtain ⟨S', loc', D', v, iv', o0, rr, cc⟩ := BEAT iv k hk
  refine ⟨v, S', fun n f z => rr n r f z, fun f => ?_⟩
  obtain ⟨G', f', z', x1, x2, x3, x4⟩ := cc G f z h.w h.fr
  exact ⟨G', f', z', F, by omega, h.next (LX_of_X x1) ⟨loc', D', iv'⟩ x2 (fun q => by rw [x3 (by omega)]; exact h.v (by omega)) x1.2.2.2.2.2.2.2.2.1 (rz_X h.ro x1), LX_of_X x1, x4⟩
theorem ST_command (h : LI r S G z a c F) (w : Int) (hw : i32 w) : ∃ v : Int, ST r S G z a c F 175 120 [.int (Int32.ofInt w)] (.int (Int32.ofInt v)) := by
  obtain ⟨loc, D, iv⟩ := h.iv
  obtain ⟨S', loc', v, iv', q⟩ := P_command iv w hw
  exact ⟨v, ST_turns h iv' q⟩
theorem ST_from (h : LI r S G z a c F) (s b : Int) (hs : i32 s) (hb : i32 b) : ∃ v : Int, ST r S G z a c F 142 112 [.int (Int32.ofInt s), .int (Int32.ofInt b)] (.int (Int32.ofInt v)) := by
  obtain ⟨loc, D, iv⟩ := h.iv
  obtain ⟨S', v, iv', q⟩ := P_from iv s b hs hb
  exact ⟨v, ST_turns h iv' q⟩
theorem ST_to (h : LI r S G z a c F) (s b k : Int) (hs : i32 s) (hb : i32 b) (hk : i32 k) : ∃ v : Int, ST r S G z a c F 143 113 [.int (Int32.ofInt s), .int (Int32.ofInt b), .int (Int32.ofInt k)] (.int (Int32.ofInt v)) := by
  obtain ⟨loc, D, iv⟩ := h.iv
  obtain ⟨S', v, iv', q⟩ := P_to iv s b k hs hb hk
  exact ⟨v, ST_turns h iv' q⟩
theorem ST_rule (h : LI r S G z a c F) (s t w m : Int) (hs : i32 s) (ht : i32 t) (hw : i32 w) (hm : i32 m) : ∃ v : Int, ST r S G z a c F 152 118 [.int (Int32.ofInt s), .int (Int32.ofInt t), .int (Int32.ofInt w), .int (Int32.ofInt m)] (.int (Int32.ofInt v)) := by
  obtain ⟨loc, D, iv⟩ := h.iv
  obtain ⟨S', v, iv', q⟩ := P_rule iv s t w m hs ht hw hm
  exact ⟨v, ST_turns h iv' q⟩
theorem ST_plan (h : LI r S G z a c F) (s m t : Int) (hs : i32 s) (hm : i32 m) (ht : i32 t) : ∃ v : Int, ST r S G z a c F 151 117 [.int (Int32.ofInt s), .int (Int32.ofInt m), .int (Int32.ofInt t)] (.int (Int32.ofInt v)) := by
  obtain ⟨loc, D, iv⟩ := h.iv
  obtain ⟨S', v, iv', q⟩ := P_plan iv s m t hs hm ht
  exact ⟨v, ST_turns h iv' q⟩
theorem ST_divert (h : LI r S G z a c F) (s i b : Int) (hs : i32 s) (hi : i32 i) (hb : i32 b) : ∃ v : Int, ST r S G z a c F 176 121 [.int (Int32.ofInt s), .int (Int32.ofInt i), .int (Int32.ofInt b)] (.int (Int32.ofInt v)) := by
  obtain ⟨loc, D, iv⟩ := h.iv
  obtain ⟨S', v, iv', q⟩ := P_divert iv s i b hs hi hb
  exact ⟨v, ST_turns h iv' q⟩
theorem ST_stands (h : LI r S G z a c F) : ∃ v : Int, ST r S G z a c F 146 114 [] (.int (Int32.ofInt v)) := by
  obtain ⟨loc, D, iv⟩ := h.iv
  obtain ⟨S', v, iv', q⟩ := P_stands iv
  exact ⟨v, ST_turns h iv' q⟩
theorem ST_ring (h : LI r S G z a c F) (i : Int) (hi : i32 i) : ∃ v : Int, ST r S G z a c F 188 130 [.int (Int32.ofInt i)] (.int (Int32.ofInt v)) := by
  obtain ⟨loc, D, iv⟩ := h.iv
  obtain ⟨S', v, iv', o0, rr, cc⟩ := RING iv i hi
  exact ⟨v, ST_turns h iv' ⟨fun n r f z => rr (n + 3) r f z, fun G hW => ⟨(cc G (fun _ => .inr (.inr (.inr (0, [])))) (0, 0) hW).1, fun n f z => (cc G f z hW).2 (n + 2)⟩, fun q => by omega⟩⟩
end LwE
