-- deps: 30.mK 31.mL 32.mM 34.mN 37.mQ 38.mR 39.mS 40.mT 41.mU 42.mV 43.cls 44.sta 44.stb 44.stc 44.std 45.cA 46.cB 47.cC 48.cD 49.cE 50.cF 54.cI 55.cJ 58.cM 59.cN 43.raw 51.cG 53.cH 56.cK 57.cL 52.cG2 60.cO 61.cP 62.cQ 64.iA 65.iB 66.iC 67.iD 68.iE 69.iF 70.iG 34.mN2 34.mN3 35.mO 36.mP 33.mM2 99.sA 99.sB 99.sD 99.tA 99.tB 99.tC
/-! ===== each call as a step ===== -/
section LwD
variable {r : Nat} {G G' : cz_G} {S S' : az_M} {f f' : Nat → az_C} {z z' : Nat × Nat} {a c : Int} {F F' : Nat} {loc : Int → Int} {D : Nat} {jr jc : Nat} {as : List Value} {v : Value}
/-- a call on both sides, from what holds between the calls to what holds between the calls -/
def ST (r : Nat) (S : az_M) (G : cz_G) (z : Nat × Nat) (a c : Int) (F jr jc : Nat) (as : List Value) (v : Value) : Prop := ∃ (S' : az_M), (∀ (n : Nat) (f : Nat → az_C) (z : Nat × Nat), az_ex az_T (n + 8) jr (.ref r :: as) (az_RH r S f, z) (some v) (az_RH r S' f, z)) ∧ ∀ f, ∃ (G' : cz_G) (f' : Nat → az_C) (z' : Nat × Nat) (F' : Nat), F' ≤ F + 1 ∧ LI r S' G' z' a c F' ∧ LX G f z G' f' z' ∧ ∀ n, az_ex az_T (n + 8) jc (.ref (G.ad 1) :: as) (cz_H G S f, z) (some v) (cz_H G' S' f', z')
theorem ST_asks (h : LI r S G z a c F) (q : Asks S jr jc as v) : ST r S G z a c F jr jc as v := ⟨S, fun n f z => q.1 n r f z, fun f => ⟨G, f, z, F, by omega, h, LX_rfl, fun n => q.2 G n f z h.w⟩⟩
theorem ST_turns (h : LI r S G z a c F) (iv : Inv S' loc D F) (q : Turns S S' jr jc as v) : ST r S G z a c F jr jc as v := ⟨S', fun n f z => q.1 n r f z, fun f => ⟨G, f, z, F, by omega, h.next (f := f) (f' := f) LX_rfl ⟨loc, D, iv⟩ (q.2.1 G h.w).1 (fun x => h.v (q.2.2 x)) h.fr h.ro, LX_rfl, fun n => (q.2.1 G h.w).2 n f z⟩⟩
theorem ST_feed (h : LI r S G z a c F) (hF : F + 1 ≤ 512) (b g gr d o : Int) (hb : i32 b) (hg : i32 g) (hgr : i32 gr) (hd : i32 d) (ho : i32 o) : ∃ v : Int, ST r S G z a c F 147 115 [.int (Int32.ofInt b), .int (Int32.ofInt g), .int (Int32.ofInt gr), .int (Int32.ofInt d), .int (Int32.ofInt o)] (.int (Int32.ofInt v)) := by
  obtain ⟨loc, D, iv⟩ := h.iv
  obtain ⟨S', loc', F', v, iv', hF', o0, rr, cc⟩ := P_feed iv hF b g gr d o hb hg hgr hd ho
  refine ⟨v, S', fun n f z => rr n r f z, fun f => ?_⟩
  obtain ⟨G', f', z', x1, x2, x3, x4⟩ := cc G f z h.w h.fr
  exact ⟨G', f', z', F', hF', h.next (LX_of_X x1) ⟨loc', D, iv'⟩ x2 (fun q => by rw [x3 (by omega)]; exact h.v (by omega)) x1.2.2.2.2.2.2.2.2.1 (rz_X h.ro x1), LX_of_X x1, x4⟩
theorem ST_bin (h : LI r S G z a c F) (b x : Int) (hb : i32 b) (hx : i32 x) : ∃ v : Int, ST r S G z a c F 137 110 [.int (Int32.ofInt b), .int (Int32.ofInt x)] (.int (Int32.ofInt v)) := by
  obtain ⟨loc, D, iv⟩ := h.iv
  obtain ⟨S', v, iv', o0, rr, cc⟩ := P_bin iv b x hb hx
  refine ⟨v, S', fun n f z => rr n r f z, fun f => ?_⟩
  obtain ⟨G', z', x1, x2, x3, x4, x5⟩ := cc G f z h.w h.v h.fr
  rcases x4 with ⟨y1, y2⟩ | ⟨y1, y2, y3, y4⟩
  · subst y1 y2
    exact ⟨_, f, _, F, by omega, h.next (f := f) (f' := f) LX_rfl ⟨loc, D, iv'⟩ x1 (fun q => h.v (by omega)) h.fr h.ro, LX_rfl, x5⟩
  · exact ⟨G', f, z', F, by omega, h.next (f := f) (f' := f) (LX_of_Y y1) ⟨loc, D, iv'⟩ x1 (fun q => x2 (by omega)) x3 (rz_bin h.ro h.w (by rw [← y4]; exact x1) y1 y2 y3), LX_of_Y y1, x5⟩
theorem ST_stage (h : LI r S G z a c F) (s k x m : Int) (hs : i32 s) (hk : i32 k) (hx : i32 x) (hm : i32 m) : ∃ v : Int, ST r S G z a c F 139 111 [.int (Int32.ofInt s), .int (Int32.ofInt k), .int (Int32.ofInt x), .int (Int32.ofInt m)] (.int (Int32.ofInt v)) := by
  obtain ⟨loc, D, iv⟩ := h.iv
  obtain ⟨S', v, iv', o0, rr, cc⟩ := P_stage iv s k x m hs hk hx hm
  refine ⟨v, S', fun n f z => rr n r f z, fun f => ?_⟩
  obtain ⟨G', z', x1, x2, x3, x4, x5⟩ := cc G f z h.w h.v h.fr
  rcases x4 with ⟨y1, y2⟩ | ⟨y1, y2, y3, y4⟩
  · subst y1 y2
    exact ⟨_, f, _, F, by omega, h.next (f := f) (f' := f) LX_rfl ⟨loc, D, iv'⟩ x1 (fun q => h.v (by omega)) h.fr h.ro, LX_rfl, x5⟩
  · exact ⟨G', f, z', F, by omega, h.next (f := f) (f' := f) (LX_of_Y y1) ⟨loc, D, iv'⟩ x1 (fun q => x2 (by omega)) x3 (rz_stage h.ro h.w (by rw [← y4]; exact x1) y1 y2 y3), LX_of_Y y1, x5⟩
end LwD
