/-! ===== one instruction ===== -/
def az_mw (q : az_ZT) : List Cond := Cond.code q.2.1.1 q.2.1.2.1 q.2.1.2.2.1 q.2.1.2.2.2.1 :: az_w0
def az_rm (d : Nat) (h h' : az_H) : Room := { frames := d, cells := h'.2.1 - h.2.1, slots := h'.2.2 - h.2.2, locals := 36 * d }
def az_Pc (D : va_G) (cy : Nat → ClassId) (base : Nat) (as : List Value) (h : az_H) : Array Value → State → Prop := va_Pc as (fun U => U.heap.size = h.2.1 ∧ va_P D vwCl (az_ws base cy h) U.heap ∧ az_K D cy U)
def az_Qc (D : va_G) (cy : Nat → ClassId) (base : Nat) (r : Option Value) (h' : az_H) : Array Value → State → Outcome → State → Prop := fun _ st oc t => oc = .returned r ∧ t.heap.size = h'.2.1 ∧ va_P D vwCl (az_ws base cy h') t.heap ∧ va_F (fun q => base ≤ q) st t
/-- what the calls of depth d come to, on the machine -/
def az_CM (l : Launch) (d : Nat) (C : az_Cl) : Prop := ∀ (j : Nat) (as : List Value) (h : az_H) (r : Option Value) (h' : az_H) (base : Nat), C j as h r h' → az_reg base h → (h.2.1 ≤ h'.2.1 ∧ h.2.2 ≤ h'.2.2 ∧ az_reg base h') ∧ ∀ (q : az_ZT), az_Z[j]? = some q → ∀ (D : va_G) (cy : Nat → ClassId), Met l q.2.1.1 (az_mw q) (az_rm d h h') (az_Pc D cy base as h) (az_Qc D cy base r h') (h'.2.1 - h.2.1) (h'.2.2 - h.2.2) (fun x => base ≤ x)
def az_X (p : Program) (s : State) (m : MethodId) (args : Array Value) (c : Code) (cc : ByteArray) (oc nL : Nat) (D : va_G) (cy : Nat → ClassId) (base : Nat) : Prop := p.tables.exec = Jvm.exec ∧ c.code = cc ∧ c.maxLocals = nL ∧ s.vm.findClass (az_own oc) = some m.cls ∧ (∀ w ∈ az_w0, w.before args s = true) ∧ az_K D cy s ∧ base ≤ s.heap.size
def az_G (p : Program) (l : Launch) (e : Env) (R : Room) (s : State) (m : MethodId) (args : Array Value) (below : List Frame) (meth : Method) (c : Code) (Q : State → Prop) (D : va_G) (cy : Nat → ClassId) (base nL sl0 : Nat) (σ : az_S) : Prop :=
  ∀ (ls : Array Slot) (H : Heap) (locs : List Loc), az_has ls nL σ.2.1 → va_P D vwCl (az_ws base cy σ.2.2.2) H → va_S (fun q => base ≤ q) s.heap H locs → H.size = σ.2.2.2.2.1 → az_reg base σ.2.2.2 → s.heap.size ≤ σ.2.2.2.2.1 → sl0 ≤ σ.2.2.2.2.2 →
    W p l e R s m args below meth c H locs (σ.2.2.2.2.1 - s.heap.size) (σ.2.2.2.2.2 - sl0) Q (F0 m σ.1 ls σ.2.2.1)
def az_Ret (p : Program) (l : Launch) (e : Env) (R : Room) (s : State) (m : MethodId) (args : Array Value) (below : List Frame) (meth : Method) (c : Code) (Q : State → Prop) (D : va_G) (cy : Nat → ClassId) (base sl0 : Nat) (cc : ByteArray) (rt : Option FieldType) (Qa : Option Value → az_H → Prop) : Prop :=
  ∀ (v : Option Value) (h : az_H), Qa v h → ∀ (pc : Nat) (ls : Array Slot) (H : Heap) (locs : List Loc), va_P D vwCl (az_ws base cy h) H → va_S (fun q => base ≤ q) s.heap H locs → H.size = h.2.1 → az_reg base h → s.heap.size ≤ h.2.1 → sl0 ≤ h.2.2 →
    (∀ (w : Int32) (ty : FieldType), v = some (.int w) → rt = some ty → narrow ty (.int w) = .int w → decode cc pc = .ok (.ireturn, 1) → W p l e R s m args below meth c H locs (h.2.1 - s.heap.size) (h.2.2 - sl0) Q (F0 m pc ls [.int w])) ∧
    (∀ w : Int64, v = some (.long w) → rt = some .long → decode cc pc = .ok (.lreturn, 1) → W p l e R s m args below meth c H locs (h.2.1 - s.heap.size) (h.2.2 - sl0) Q (F0 m pc ls [.long w])) ∧
    (∀ (w : Value) (ty : FieldType), v = some w → rt = some ty → ((∃ n, ty = .object n) ∨ ∃ t, ty = .array t) → (w = .null ∨ ∃ a, w = .ref a) → decode cc pc = .ok (.areturn, 1) → W p l e R s m args below meth c H locs (h.2.1 - s.heap.size) (h.2.2 - sl0) Q (F0 m pc ls [w])) ∧
    (v = none → rt = none → decode cc pc = .ok (.return_, 1) → W p l e R s m args below meth c H locs (h.2.1 - s.heap.size) (h.2.2 - sl0) Q (F0 m pc ls []))
section AzI
variable {p : Program} {l : Launch} {e : Env} {R : Room} {s : State} {m : MethodId} {args : Array Value} {below : List Frame} {meth : Method} {c : Code} {Q : State → Prop} {D : va_G} {cy : Nat → ClassId} {base nL sl0 oc : Nat} {cc : ByteArray}
variable {H : Heap} {locs : List Loc} {cells slots : Nat}
theorem az_ub {g : JFrame} (h : H.size ≤ s.heap.size + cells → W p l e R s m args below meth c H locs cells slots Q g) : W p l e R s m args below meth c H locs cells slots Q g := fun T hT X => h (by have q := X.same.2.2.1; rw [← hT]; exact q) T hT X
theorem az_Scomp {A : Nat → Prop} {H0 H H1 : Heap} {locs locs1 : List Loc} (h1 : va_S A H0 H locs) (h2 : va_S A H H1 locs1) : va_S A H0 H1 locs1 := ⟨Nat.le_trans h1.1 h2.1, fun q a b => (h2.2.1 q (Nat.lt_of_lt_of_le a h1.1) b).trans (h1.2.1 q a b), h2.2.2⟩
theorem az_Srf {A : Nat → Prop} {H0 H : Heap} {locs : List Loc} (h1 : va_S A H0 H locs) : va_S A H H locs := ⟨Nat.le_refl _, fun _ _ _ => rfl, h1.2.2⟩
theorem az_word {w : Cond} (hts : ∀ w ∈ az_w0, w.before args s = true) (h : w ∈ lw_tbl) (g : goodWord w = true) : w.before args s = true := hts w (az_w0_of h g)
theorem az_wl_in (oc : Nat) : ∀ w ∈ az_wl oc, w ∈ lw_tbl := by
  unfold az_wl
  split
  · exact az_wX0_in
  · exact az_wX1_in
  · exact az_wX2_in
  · exact az_wX3_in
  · exact az_wX4_in
  · exact az_wX5_in
  · exact az_wX6_in
  · exact az_wX7_in
  · exact az_wX8_in
  · exact az_wX9_in
  · exact az_wX10_in
  · exact az_wX11_in
  · exact az_wJ7_in
  · exact az_wL_in
  · exact fun _ h => absurd h List.not_mem_nil
theorem az_nestw {w : Cond} (hK : az_K D cy s) (h : w ∈ az_nest) (ho : w.onTables = true) : w.before args s = true := va_tabs (A := #[]) (A' := args) ho rfl (hK.2.2.2 w h)
/-- a write: the size is the same, the world is the new one -/
theorem az_after {H1 : Heap} {locs1 : List Loc} {g : JFrame} {h : az_H} (hS : va_S (fun q => base ≤ q) s.heap H locs) (hz : H.size = h.2.1) (hle : s.heap.size ≤ h.2.1) (hS1 : va_S (fun q => base ≤ q) H H1 locs1)
    (kk : va_S (fun q => base ≤ q) s.heap H1 locs1 → H1.size = h.2.1 → W p l e R s m args below meth c H1 locs1 (h.2.1 - s.heap.size) slots Q g) : W p l e R s m args below meth c H1 locs1 (h.2.1 - s.heap.size) slots Q g :=
  az_ub fun hu => kk (az_Scomp hS hS1) (by have := hS1.1; omega)
theorem az_callW {mc ms : Nat} {pc : Nat} {ls : Array Slot} {st0 rest : List Value} {r : Option Value} {h' : az_H} {a : Array Value} (hr : va_Run p l e R s m args below meth c H locs cells slots mc ms (F0 m pc ls st0) rest (az_Qc D cy base r h' a) (fun x => base ≤ x)) (hS : va_S (fun q => base ≤ q) s.heap H locs)
    (kk : ∀ (H1 : Heap) (locs1 : List Loc), va_P D vwCl (az_ws base cy h') H1 → H1.size = h'.2.1 → va_S (fun q => base ≤ q) s.heap H1 locs1 → W p l e R s m args below meth c H1 locs1 (cells + mc) (slots + ms) Q (F0 m (pc + 3) ls (r.toList ++ rest))) : W p l e R s m args below meth c H locs cells slots Q (F0 m pc ls st0) := by
  intro T hT X
  obtain ⟨v, st₀, t, T', L, h0, X', hL, e1, e2, ⟨hv, hsz, hP, hz, hk⟩, st⟩ := hr T hT X
  cases hv
  rw [h0] at hz hk
  obtain ⟨t2, a1, b1⟩ := kk T'.heap (locs ++ L) (by rw [e1]; exact hP) (by rw [e1]; exact hsz)
    ⟨Nat.le_trans hS.1 (by rw [e1]; exact hz), fun q h1 h2 => by rw [e1, hk q (Nat.lt_of_lt_of_le h1 hS.1) h2]; exact hS.2.1 q h1 h2, fun q hq => by
      rcases List.mem_append.mp hq with h | h
      · exact hS.2.2 q h
      · exact hL q h⟩ T' rfl X'
  exact ⟨t2, st t2 a1, b1⟩
theorem az_blind {as : List Value} {h : az_H} : FrameBlind (az_Pc D cy base as h) := fun a U g mk q => by
  obtain ⟨q1, q2, q3, q4, q5, q6, q7⟩ := q
  exact ⟨q1, q2, q3, va_K.moved (u := U) (U := U.calling g mk a) (Vm.Alike.refl U.vm) q4, va_AO.moved (u := U) (U := U.calling g mk a) (Vm.Alike.refl U.vm) q5, va_AO.moved (u := U) (U := U.calling g mk a) (Vm.Alike.refl U.vm) q6, fun w hw => va_tabs (u := U) (U := U.calling g mk a) (by
    have hn : az_nest.all (fun w => w.onTables) = true := by decide +kernel
    exact List.all_eq_true.mp hn w hw) rfl (q7 w hw)⟩
theorem az_K.moved {U : State} (hW : s.WarmedH U.vm) (h : az_K D cy s) : az_K D cy U := by
  refine ⟨va_K.moved hW.alike h.1, va_AO.moved hW.alike h.2.1, va_AO.moved hW.alike h.2.2.1, fun w hw => ?_⟩
  have hn : az_nest.all (fun w => match w with | .fieldLinkNest .. => true | .methodLinkNest .. => true | _ => false) = true := by decide +kernel
  have h1 := List.all_eq_true.mp hn w hw
  have h2 := h.2.2.2 w hw
  split at h1
  · exact va_Nw.warmF hW h2
  · exact va_Nw.warmM hW h2
  · cases h1
end AzI
