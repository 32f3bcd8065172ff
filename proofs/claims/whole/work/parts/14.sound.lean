/-! ===== a run; a method; the table ===== -/
theorem az_wk_mo {base : Nat} {C : az_Cl} {X : Nat → Option az_C} {rt : Option FieldType} {M : Nat → Option az_I} {Q : Option Value → az_H → Prop} {h' : az_H} (hC : ∀ (j : Nat) (as : List Value) (h : az_H) (r : Option Value) (h1 : az_H), C j as h r h1 → az_mo base h h1) (hM : ∀ (pc : Nat) (e : az_I), M pc = some e → ∀ k, e.1 = .putfield k → e.2.2.1 < 12) (hQ : ∀ v h, Q v h → h = h') :
    ∀ (k : Nat) (σ : az_S), az_wk C X rt M Q k σ → az_mo base σ.2.2.2 h'
  | 0, _, h => h.elim
  | k + 1, σ, h => by
    have h : az_go C Q (az_wk C X rt M Q k) (az_step X rt (M σ.1) σ) := h
    have hp : az_hp base σ.2.2.2 (az_step X rt (M σ.1) σ) := by
      cases he : M σ.1 with
      | none => trivial
      | some e => exact az_hp_ins (hM _ _ he)
    generalize az_step X rt (M σ.1) σ = r at h hp
    rcases r with _ | s' | ⟨v, h0⟩ | ⟨j, as, pc, lv, st, h0⟩
    · exact h.elim
    · exact az_mo.tr hp (az_wk_mo hC hM hQ k s' h)
    · have e1 : h0 = σ.2.2.2 := hp
      have e2 := hQ _ _ h
      rw [← e1, e2]
      exact az_mo.rf
    · obtain ⟨v, h1, a, b⟩ := h
      have e1 : h0 = σ.2.2.2 := hp
      rw [← e1]
      exact az_mo.tr (hC _ _ _ _ _ a) (az_wk_mo hC hM hQ k _ b)
theorem az_row_ok {j : Nat} {Rw : az_row} (h : az_T[j]? = some Rw) : ∃ q, az_Z[j]? = some q ∧ q.2.1 = Rw := by
  rw [az_ZT_eq, List.getElem?_map] at h
  cases hq : az_Z[j]? with
  | none => rw [hq] at h; cases h
  | some q => rw [hq] at h; cases h; exact ⟨q, rfl, rfl⟩
theorem az_okE_pf {oc mx : Nat} {ini : Bool} {cc : ByteArray} {pc : Nat} {e : az_I} (h : az_okE az_Z oc mx ini cc (pc, e) = true) (k : Nat) (hk : e.1 = .putfield k) : e.2.2.1 < 12 := by
  obtain ⟨i, n, a, b, c⟩ := e
  cases hk
  unfold az_okE at h
  rw [Bool.and_eq_true] at h
  have h2 : (decide (n = 3) && az_okF oc k a b && az_okP oc k ini a b c) = true := h.2
  simp only [Bool.and_eq_true] at h2
  have hF := h2.1.2
  unfold az_okF at hF
  split at hF
  · rename_i T N hcl
    exact (az_cls _ _ hcl).2.2.2.2.2.2
  · cases hF
theorem az_ex_mo {base : Nat} : ∀ (n j : Nat) (as : List Value) (h : az_H) (r : Option Value) (h' : az_H), az_ex az_T n j as h r h' → az_mo base h h'
  | 0, _, _, _, _, _, h => h.elim
  | n + 1, j, as, h, r, h', hx => by
    obtain ⟨Rw, hT, hl, k, hw⟩ := hx
    obtain ⟨q, hq, rfl⟩ := az_row_ok hT
    obtain ⟨w1, w2, -, -, -, -, -, -, -⟩ := az_good q (List.mem_of_getElem? hq)
    refine az_wk_mo (C := az_ex az_T n) (h' := h') (az_ex_mo n) ?_ (fun v h0 z => z.2) k _ hw
    intro pc e he k0 hk0
    rw [w2] at he
    exact az_okE_pf (w1 _ (az_fn_mem _ _ _ he)) k0 hk0
section AzR
variable {p : Program} {l : Launch} {e : Env} {R : Room} {s : State} {m : MethodId} {args : Array Value} {below : List Frame} {meth : Method} {c : Code} {Q : State → Prop} {D : va_G} {cy : Nat → ClassId} {base nL sl0 oc : Nat} {cc : ByteArray}
theorem az_run {C : az_Cl} {Qa : Option Value → az_H → Prop} {X : Nat → Option az_C} {rt : Option FieldType} {ini : Bool} {M : Nat → Option az_I} {d : Nat}
    (ctx : az_X p s m args c cc oc nL D cy base) (hE : ∀ (pc : Nat) (e : az_I), M pc = some e → az_okE az_Z oc nL ini cc (pc, e) = true) (hini : ini = true → meth.name = "<init>") (hX : az_scr X base s)
    (hm : ∀ k σ, az_wk C X rt M Qa k σ → az_reg base σ.2.2.2 → (σ.2.2.2.2.1 - s.heap.size ≤ R.cells ∧ σ.2.2.2.2.2 - sl0 ≤ R.slots))
    (hfr : d + 1 ≤ R.frames) (hlo : 36 * (d + 1) ≤ R.locals) (hC : az_CM l d C) (hRet : az_Ret p l e R s m args below meth c Q D cy base sl0 cc rt Qa) : ∀ (k : Nat) (σ : az_S), az_wk C X rt M Qa k σ → az_G p l e R s m args below meth c Q D cy base nL sl0 σ
  | 0, _, h => h.elim
  | k + 1, (pc, lv, st, h), hw => by
    have hw : az_go C Qa (az_wk C X rt M Qa k) (az_step X rt (M pc) (pc, lv, st, h)) := hw
    cases he : M pc with
    | none => rw [he] at hw; exact hw.elim
    | some x =>
      obtain ⟨ins, n, a, b, q⟩ := x
      rw [he] at hw
      exact az_one ctx (hE _ _ he) hini hX hw (az_run ctx hE hini hX hm hfr hlo hC hRet k) (hm k) hfr hlo hC hRet
end AzR
set_option maxHeartbeats 1000000 in
theorem az_met (l : Launch) : ∀ n : Nat, az_CM l n (az_ex az_T n)
  | 0 => fun _ _ _ _ _ _ h => h.elim
  | n + 1 => by
    intro j as h r h' base hc hreg
    have hmo := az_ex_mo (base := base) (n + 1) j as h r h' hc
    refine ⟨⟨hmo.1, hmo.2.1, hmo.2.2 hreg⟩, fun q hq D cy => ?_⟩
    obtain ⟨Rw, hT, hl, k, hw⟩ := hc
    obtain ⟨q', hq', rfl⟩ := az_row_ok hT
    cases hq.symm.trans hq'
    obtain ⟨w1, w2, w3, w4, w5, w6, w7, w8, w9⟩ := az_good q (List.mem_of_getElem? hq)
    refine Met.ofW (cc := q.2.1.2.1) (maxL := q.2.1.2.2.1) (ret := q.2.1.2.2.2.1) (ws' := az_w0) w7 rfl ?_
    intro p e s m args below meth c s₁ B hml hv
    obtain ⟨rfl, hsz, hP, hK⟩ := hv
    have hx := B.exec
    have hb := B.bytes
    have hr := B.returns
    have hts0 := atoms_spec (ws := az_mw q) B.pre
    have hts : ∀ w ∈ az_w0, w.before as.toArray s = true := fun w hw => hts0 w (List.mem_cons_of_mem _ hw)
    have hown : s.vm.findClass (az_own q.1) = some m.cls := by
      rw [← w3]
      exact findClass_of_methodNamed B.named
    have hlocks := B.notSynchronized
    have hnm : meth.name = q.2.1.1.name := (name_of_methodNamed B.named B.method).1
    rw [lg_entry_eq]
    have hl0 := lv_entry as (n := q.2.1.2.2.1) hl
    generalize (lg_sl as ++ List.replicate (q.2.1.2.2.1 - (lg_sl as).length) Slot.unset).toArray = ls at hl0 ⊢
    have has : az_has ls q.2.1.2.2.1 (az_arg 0 as) := ⟨hl0.1, hl0.2.1, fun i v hv => hl0.2.2 (i, v) (az_arg_inv as 0 i v hv)⟩
    have hbase : base ≤ s.heap.size := by rw [hsz]; exact hreg.1
    have hEE : ∀ (pc : Nat) (x : az_I), q.2.1.2.2.2.2 pc = some x → az_okE az_Z q.1 q.2.1.2.2.1 (decide (q.2.1.1.name = "<init>")) q.2.1.2.1 (pc, x) = true := fun pc x he => by
      rw [w2] at he
      exact w1 _ (az_fn_mem _ _ _ he)
    have hRet : az_Ret p l e (headSpec (az_mw q) (az_rm (n + 1) h h')).room s m as.toArray below meth c (MQ below (az_Qc D cy base r h') as.toArray s (h'.2.1 - h.2.1) (h'.2.2 - h.2.2) (fun x => base ≤ x)) D cy base h.2.2 q.2.1.2.1 q.2.1.2.2.2.1 (fun r0 h0 => r0 = r ∧ h0 = h') := by
      intro v h0 hv pc ls H locs hP1 hS1 hz1 hr1 hle1 hsl1
      obtain ⟨rfl, rfl⟩ := hv
      have hqq : ∀ t : State, t.heap = H → s.WarmedH t.vm → az_Qc D cy base v h0 as.toArray s (.returned v) t := fun t ht _ => ⟨rfl, by rw [ht]; exact hz1, by rw [ht]; exact hP1, hS1.F ht⟩
      rw [hsz]
      refine ⟨fun w ty e1 e2 e3 e4 => ?_, fun w e1 e2 e3 => ?_, fun w ty e1 e2 e3 e4 e5 => ?_, fun e1 e2 e3 => ?_⟩
      · subst e1
        exact W.zret hx hb (by rw [hr]; exact e2) e3 hqq hS1.2.2 e4
      · subst e1
        exact W.lret hx hb (by rw [hr]; exact e2) hqq hS1.2.2 e3
      · subst e1
        exact W.aret hx hb (by rw [hr]; exact e2) e3 e4 hqq hS1.2.2 e5
      · subst e1
        exact W.vret hx hb (by rw [hr]; exact e2) hqq hS1.2.2 e3
    have main := az_run (Q := MQ below (az_Qc D cy base r h') as.toArray s (h'.2.1 - h.2.1) (h'.2.2 - h.2.2) (fun x => base ≤ x)) (p := p) (l := l) (e := e) (R := (headSpec (az_mw q) (az_rm (n + 1) h h')).room) (s := s) (m := m) (args := as.toArray) (below := below) (meth := meth) (c := c) (D := D) (cy := cy) (base := base) (sl0 := h.2.2) (X := fun _ => none) (ini := decide (q.2.1.1.name = "<init>")) (d := n) ⟨hx, hb, hml, hown, hts, hK, hbase⟩ hEE (fun z => by rw [hnm]; exact of_decide_eq_true z) (fun _ _ z => by cases z)
      (fun k σ hw hrg => by
        have z := az_wk_mo (base := base) (C := az_ex az_T n) (h' := h') (az_ex_mo n) (fun pc x he k0 hk0 => az_okE_pf (hEE pc x he) k0 hk0) (fun v h0 z => z.2) k σ hw
        have z1 := z.1
        have z2 := z.2.1
        show σ.2.2.2.2.1 - s.heap.size ≤ h'.2.1 - h.2.1 ∧ σ.2.2.2.2.2 - h.2.2 ≤ h'.2.2 - h.2.2
        omega)
      (Nat.le_refl _) (Nat.le_refl _) (az_met l n) hRet k _ hw ls s.heap [] has hP va_S.rf hsz hreg (by rw [hsz]; exact Nat.le_refl _) (Nat.le_refl _)
    have main : W p l e (headSpec (az_mw q) (az_rm (n + 1) h h')).room s m as.toArray below meth c s.heap [] (h.2.1 - s.heap.size) (h.2.2 - h.2.2) (MQ below (az_Qc D cy base r h') as.toArray s (h'.2.1 - h.2.1) (h'.2.2 - h.2.2) (fun x => base ≤ x)) (F0 m 0 ls []) := main
    rw [hsz, Nat.sub_self, Nat.sub_self] at main
    exact main
