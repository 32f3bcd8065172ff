-- deps: 99.vC 99.uyR 99.wA 99.wB 30.mK 31.mL 32.mM 34.mN 37.mQ 38.mR 39.mS 43.cls 44.sta 44.stb 44.stc 44.std 45.cA 46.cB 47.cC 48.cD 49.cE 50.cF 54.cI 55.cJ 58.cM 59.cN 43.raw 51.cG 53.cH 56.cK 57.cL 52.cG2 60.cO 61.cP 62.cQ 64.iA 65.iB 66.iC 67.iD 68.iE 69.iF 70.iG 71.iH 72.iI 73.iJ 74.iK 75.iL 76.iM 77.iN 79.iR 80.iS 81.iT 82.iU 83.iV 84.iW 85.iX 86.bA 87.bB 88.bC 34.mN2 34.mN3 35.mO 36.mP 33.mM2 40.mT 41.mU 42.mV 89.bD 90.rA 91.rB 92.rC 93.rD 94.rE 95.rF 96.rG 97.rH 98.rI 99.rJ 99.sA 99.sB 99.sC 99.sD 99.tA 99.tB 99.tC 99.tD 99.tE 99.uyS 99.uA 99.uB 99.uC 99.uD 99.vA 99.vB0 99.vB1 99.vB2 99.vB3
theorem whole_start {p : Program} {e : Env} {s : State} {m : MethodId} {below : List Frame} {meth : Method} {c : Code} (l : Launch) {b L : Nat} {xs : Nat → Int32} (hL : L ≤ 3072) (C0 : lw_At p s m meth c b L xs) : W p l e room_1 s m #[Value.ref b] below meth c s.heap [] 0 0 (lw_Z below #[Value.ref b] s) (entryFrame m ([Value.ref b] : List Value).toArray 4) := by
  obtain ⟨hx, hb, hr, hml, hown, hts, hX, hbl, hlocks, hgv⟩ := C0
  obtain ⟨D, cy, hK⟩ := lw_K hts
  have hgo := lw_go (X := fun a => if a = b then some (az_ia 0 L (fun j => xs j.toNat)) else none) (Q := fun v h => v = some (.int (Int32.ofInt 1)) ∧ h.2.1 ≤ s.heap.size + 600000 ∧ h.2.2 ≤ 7302249) (base := s.heap.size) (b := b) (if_pos rfl) hL (fun F h hh => by
    have := LH_room hh
    exact ⟨rfl, by omega, by omega⟩)
  obtain ⟨k, hw⟩ := hgo
  obtain ⟨v, h', ⟨hv, hq1, hq2⟩, hw⟩ := az_wk_det k _ hw
  subst hv
  rw [lg_entry_eq]
  have hl0 := lv_entry ([.ref b]) (n := 4) (Nat.le_of_ble_eq_true rfl)
  generalize (lg_sl ([.ref b]) ++ List.replicate (4 - (lg_sl ([.ref b])).length) Slot.unset).toArray = ls at hl0 ⊢
  have has : az_has ls 4 (az_arg 0 [.ref b]) := ⟨hl0.1, hl0.2.1, fun i v hv => hl0.2.2 (i, v) (az_arg_inv [.ref b] 0 i v hv)⟩
  have hEE : ∀ (pc : Nat) (x : az_I), az_fn az_kL pc = some x → az_okE az_Z 13 4 false code (pc, x) = true := fun pc x he => az_vL _ (az_fn_mem _ _ _ he)
  have hRet : az_Ret p l e room_1 s m #[Value.ref b] below meth c (lw_Z below #[Value.ref b] s) D cy s.heap.size 0 code (some .boolean) (fun r0 h0 => r0 = some (.int (Int32.ofInt 1)) ∧ h0 = h') := by
    intro v h0 hv pc ls H locs hP1 hS1 hz1 hr1 hle1 hsl1
    obtain ⟨rfl, rfl⟩ := hv
    refine ⟨fun w ty e1 e2 e3 e4 => ?_, fun w e1 => (by cases e1), fun w ty e1 e2 e3 => ?_, fun e1 => (by cases e1)⟩
    · cases e1
      exact va_forget (fun q hq => hS1.2.2 q hq) (W.widen (k := 600000) (n := 7302249) (by omega) (by omega) (lw_ret hx hb hr hlocks e4))
    · cases e2
      rcases e3 with ⟨n, q⟩ | ⟨n, q⟩ <;> cases q
  have hscr : az_scr (fun a => if a = b then some (az_ia 0 L (fun j => xs j.toNat)) else none) s.heap.size s := by
    intro a c0 ha
    replace ha : (if a = b then some (az_ia 0 L (fun j => xs j.toNat)) else none) = some c0 := ha
    by_cases q : a = b
    · rw [if_pos q] at ha
      rw [q]
      exact ⟨L, _, (Option.some.inj ha).symm, hX, hbl, Nat.not_le.mpr hbl⟩
    · rw [if_neg q] at ha
      cases ha
  have hP : va_P D vwCl (az_ws s.heap.size cy (fun _ => az_dd, s.heap.size, 0)) s.heap := by
    have e : az_ws s.heap.size cy (fun _ => az_dd, s.heap.size, 0) = [] := by
      unfold az_ws
      show va_pl (List.range' s.heap.size (s.heap.size - s.heap.size)) _ = []
      rw [Nat.sub_self]
      rfl
    rw [e]
    exact fun k q h => by simp at h
  have main := az_run (Q := lw_Z below #[Value.ref b] s) (p := p) (l := l) (e := e) (R := room_1) (s := s) (m := m) (args := #[Value.ref b]) (below := below) (meth := meth) (c := c) (D := D) (cy := cy) (base := s.heap.size) (sl0 := 0) (oc := 13) (nL := 4) (cc := code) (X := fun a => if a = b then some (az_ia 0 L (fun j => xs j.toNat)) else none) (rt := some .boolean) (ini := false) (M := az_fn az_kL) (d := 8) (C := az_ex az_T 8)
    ⟨hx, hb, hml, hown, fun w hw => hts w (List.mem_filter.mp hw).1, hK, Nat.le_refl _⟩ hEE (fun z => by cases z) hscr
    (fun k σ hw hrg => by
      have z := az_wk_mo (base := s.heap.size) (C := az_ex az_T 8) (h' := h') (az_ex_mo 8) (fun pc x he k0 hk0 => az_okE_pf (hEE pc x he) k0 hk0) (fun v h0 z => z.2) k σ hw
      have z1 := z.1
      have z2 := z.2.1
      show σ.2.2.2.2.1 - s.heap.size ≤ 600000 ∧ σ.2.2.2.2.2 - 0 ≤ 7302249
      omega)
    (by decide) (by decide) (az_met l 8) hRet k _ hw ls s.heap [] has hP va_S.rf rfl ⟨Nat.le_refl _, fun _ _ => rfl⟩ (Nat.le_refl _) (Nat.le_refl _)
  have main : W p l e room_1 s m #[Value.ref b] below meth c s.heap [] (s.heap.size - s.heap.size) (0 - 0) (lw_Z below #[Value.ref b] s) (F0 m 0 ls []) := main
  rw [Nat.sub_self] at main
  exact main
