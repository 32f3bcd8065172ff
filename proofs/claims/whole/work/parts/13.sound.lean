/-! ===== one instruction, on the machine ===== -/
def az_scr (X : Nat → Option az_C) (base : Nat) (s : State) : Prop := ∀ (a : Nat) (c : az_C), X a = some c → ∃ (L : Nat) (xs : Int → Int32), c = az_ia 0 L xs ∧ va_X a L (fun j => xs (j : Int)) s s.heap ∧ a < s.heap.size ∧ ¬ base ≤ a
theorem az_fit_ok {t : Int} {v : Value} {ty : FieldType} (h : az_fit t v = true) (hc : (match some ty with
    | some .int => decide (t = 0)
    | some .long => decide (t = 1)
    | some .boolean => decide (t = 2)
    | some (.object _) => decide (t = 3)
    | some (.array _) => decide (t = 3)
    | _ => false) = true) : narrow ty v = v ∧ fits ty v = true := by
  unfold az_fit at h
  split at hc
  · rename_i hq
    cases hq
    have ht := of_decide_eq_true hc
    subst ht
    split at h <;> first | exact ⟨rfl, rfl⟩ | (simp at h; done)
  · rename_i hq
    cases hq
    have ht := of_decide_eq_true hc
    subst ht
    split at h <;> first | exact ⟨rfl, rfl⟩ | (simp at h; done)
  · rename_i hq
    cases hq
    have ht := of_decide_eq_true hc
    subst ht
    split at h
    · simp at h
      rcases h with rfl | rfl <;> exact ⟨rfl, rfl⟩
    all_goals (simp at h; done)
  · rename_i hq
    cases hq
    have ht := of_decide_eq_true hc
    subst ht
    split at h <;> first | exact ⟨rfl, rfl⟩ | (simp at h; done)
  · rename_i hq
    cases hq
    have ht := of_decide_eq_true hc
    subst ht
    split at h <;> first | exact ⟨rfl, rfl⟩ | (simp at h; done)
  · cases hc
theorem az_selT {pc : Nat} {d : Int} (hd : 0 ≤ (pc : Int) + d) : ∀ (offs : List Int) (lo x : Int), offs.all (fun o => decide (0 ≤ (pc : Int) + o)) = true →
    ((x < lo ∨ lo + offs.length ≤ x) ∧ ((az_sel pc d offs lo x : Nat) : Int) = (pc : Int) + d) ∨ (lo ≤ x ∧ x < lo + offs.length ∧ ∃ o, offs[(x - lo).toNat]? = some o ∧ ((az_sel pc d offs lo x : Nat) : Int) = (pc : Int) + o)
  | [], lo, x, _ => by
    refine Or.inl ⟨?_, ?_⟩
    · simp only [List.length_nil]; omega
    · show ((((pc : Int) + d).toNat : Nat) : Int) = (pc : Int) + d
      omega
  | o :: os, lo, x, h => by
    rw [List.all_cons, Bool.and_eq_true] at h
    have ho := of_decide_eq_true h.1
    by_cases hx : x = lo
    · refine Or.inr ⟨by omega, by simp only [List.length_cons]; omega, o, by rw [hx, show (lo - lo).toNat = 0 by omega]; rfl, ?_⟩
      unfold az_sel
      rw [if_pos hx]
      omega
    · have e : az_sel pc d (o :: os) lo x = az_sel pc d os (lo + 1) x := by
        show (if x = lo then _ else _) = _
        rw [if_neg hx]
      rw [e]
      rcases az_selT hd os (lo + 1) x h.2 with ⟨h1, h2⟩ | ⟨h1, h2, o', h3, h4⟩
      · exact Or.inl ⟨by simp only [List.length_cons]; omega, h2⟩
      · refine Or.inr ⟨by omega, by simp only [List.length_cons]; omega, o', ?_, h4⟩
        rw [show (x - lo).toNat = (x - (lo + 1)).toNat + 1 by omega]
        exact h3
section AzO
variable {p : Program} {l : Launch} {e : Env} {R : Room} {s : State} {m : MethodId} {args : Array Value} {below : List Frame} {meth : Method} {c : Code} {Q : State → Prop} {D : va_G} {cy : Nat → ClassId} {base nL sl0 oc : Nat} {cc : ByteArray}
theorem az_qtop {h : az_H} {q : Nat} {e' : va_E} {H1 : Heap} (hr : az_reg base h) (hP : va_P D vwCl (az_ws base cy h ++ [(q, e')]) H1) (hD : va_D (fun q => base ≤ q) (az_ws base cy h ++ [(q, e')])) (hz : H1.size ≤ h.2.1 + 1) : q = h.2.1 ∧ H1.size = h.2.1 + 1 := by
  have hlen : (az_ws base cy h).length = h.2.1 - base := by simp [az_ws, va_pl]
  have hlast : (az_ws base cy h ++ [(q, e')])[h.2.1 - base]? = some (q, e') := by
    rw [List.getElem?_append_right (by omega), hlen, Nat.sub_self]
    rfl
  have h1 := (hP _ _ hlast).lt
  have h1 : q < H1.size := h1
  have h2 : base ≤ q := hD.2 _ _ hlast
  have h3 : ¬ q < h.2.1 := fun hlt => by
    have hq : (az_ws base cy h ++ [(q, e')])[q - base]? = some (q, az_e cy (h.1 q)) := by
      rw [List.getElem?_append_left (by omega)]
      unfold az_ws va_pl
      rw [List.getElem?_map, List.getElem?_range' (by omega)]
      simp only [Option.map_some, Option.some.injEq, Prod.mk.injEq]
      have e1 : base + 1 * (q - base) = q := by omega
      rw [e1]
      exact ⟨rfl, rfl⟩
    have := hD.1 _ _ _ _ hq hlast rfl
    omega
  exact ⟨by omega, by omega⟩
theorem az_mkB {d kx n : Nat} {h h' : az_H} {q : az_ZT} (hts : ∀ w ∈ az_w0, w.before args s = true) (hq : q ∈ az_Z) (hfr : d + 1 ≤ R.frames) (hlo : 36 * (d + 1) ≤ R.locals) (hl : Cond.methodLink (az_own oc) kx q.2.1.1 ∈ az_wl oc) (hn : (parseMethodDescriptor q.2.1.1.desc).map (fun d => d.parameters.length) = some n) :
    CallB R s args (az_own oc) kx q.2.1.1 q.2.1.2.1 q.2.1.2.2.1 q.2.1.2.2.2.1 (az_mw q) (az_rm d h h') (h'.2.1 - h.2.1) (h'.2.2 - h.2.2) n := by
  obtain ⟨g1, g2, g3, g4, g5, g6, g7, g8, g9⟩ := az_good q hq
  refine callB_of n hts ?_ rfl rfl rfl (az_word hts (g4 _ g6) rfl) (az_word hts (az_wl_in oc _ hl) rfl) ⟨g9.1, g9.2, hn⟩ ⟨hfr, ?_⟩
  · intro w hw
    rcases List.mem_cons.mp hw with rfl | hw
    · exact ⟨az_w0_of (g4 _ g5) rfl, Or.inl rfl⟩
    · exact az_w0_good w hw
  · show 8 + (q.2.1.2.2.1 + 11) + 36 * d ≤ R.locals
    omega
theorem az_mkN {d kx n : Nat} {h h' : az_H} {q : az_ZT} (hts : ∀ w ∈ az_w0, w.before args s = true) (hK : az_K D cy s) (hq : q ∈ az_Z) (hfr : d + 1 ≤ R.frames) (hlo : 36 * (d + 1) ≤ R.locals) (hl : Cond.methodLinkNest (az_own oc) kx q.2.1.1 "MillLine" ∈ az_nest) (hn : (parseMethodDescriptor q.2.1.1.desc).map (fun d => d.parameters.length) = some n) :
    va_CN R s args (az_own oc) kx q.2.1.1 "MillLine" q.2.1.2.1 q.2.1.2.2.1 q.2.1.2.2.2.1 (az_mw q) (az_rm d h h') (h'.2.1 - h.2.1) (h'.2.2 - h.2.2) n := by
  obtain ⟨g1, g2, g3, g4, g5, g6, g7, g8, g9⟩ := az_good q hq
  refine va_cnB n hts ?_ rfl rfl rfl (hK.2.2.2 _ hl) (az_word hts (g4 _ g6) rfl) ⟨g9.1, g9.2, hn⟩ ⟨hfr, ?_⟩
  · intro w hw
    rcases List.mem_cons.mp hw with rfl | hw
    · exact ⟨az_w0_of (g4 _ g5) rfl, Or.inl rfl⟩
    · exact az_w0_good w hw
  · show 8 + (q.2.1.2.2.1 + 11) + 36 * d ≤ R.locals
    omega
set_option maxHeartbeats 4000000 in
set_option maxRecDepth 100000 in
theorem az_one {C : az_Cl} {Qa : Option Value → az_H → Prop} {K : az_S → Prop} {X : Nat → Option az_C} {rt : Option FieldType} {ini : Bool} {n a b : Nat} {k : Int} {pc : Nat} {lv : az_L} {st : List Value} {h : az_H} {ins : Instr} {d : Nat}
    (ctx : az_X p s m args c cc oc nL D cy base) (hE : az_okE az_Z oc nL ini cc (pc, ins, n, a, b, k) = true) (hini : ini = true → meth.name = "<init>") (hX : az_scr X base s)
    (hgo : az_go C Qa K (az_ins X rt n a b k pc lv st h ins)) (hk : ∀ σ, K σ → az_G p l e R s m args below meth c Q D cy base nL sl0 σ) (hm : ∀ σ, K σ → az_reg base σ.2.2.2 → (σ.2.2.2.2.1 - s.heap.size ≤ R.cells ∧ σ.2.2.2.2.2 - sl0 ≤ R.slots))
    (hfr : d + 1 ≤ R.frames) (hlo : 36 * (d + 1) ≤ R.locals) (hC : az_CM l d C) (hRet : az_Ret p l e R s m args below meth c Q D cy base sl0 cc rt Qa) : az_G p l e R s m args below meth c Q D cy base nL sl0 (pc, lv, st, h) := by
  obtain ⟨hx, hb, hml, hown, hts, hK, hbs⟩ := ctx
  unfold az_okE at hE
  rw [Bool.and_eq_true] at hE
  obtain ⟨hE1d, hE2d⟩ := hE
  have hE1 : decode cc pc = .ok (ins, n) := of_decide_eq_true hE1d
  have hE2 : az_okI az_Z oc nL ini n a b k pc ins = true := hE2d
  intro ls H locs g1 g2 g3 g4 g5 g6 g7
  have g1 : az_has ls nL lv := g1
  have g2 : va_P D vwCl (az_ws base cy h) H := g2
  have g4 : H.size = h.2.1 := g4
  have g5 : az_reg base h := g5
  have g6 : s.heap.size ≤ h.2.1 := g6
  have g7 : sl0 ≤ h.2.2 := g7
  show W p l e R s m args below meth c H locs (h.2.1 - s.heap.size) (h.2.2 - sl0) Q (F0 m pc ls st)
  have hAA : ∀ q, H.size ≤ q → base ≤ q := fun q hq => by omega
  have hRc : h.2.1 - s.heap.size + (h.2.1 + 1 - h.2.1) = h.2.1 + 1 - s.heap.size := by omega
  cases ins with
  | iload_n i =>
    cases of_decide_eq_true hE2
    obtain ⟨x, hv, hK1⟩ := az_ldi_inv hgo
    exact lv_iload_n hx hb hE1 rfl (g1.2.2 _ _ hv) (hk _ hK1 ls H locs g1 g2 g3 g4 g5 g6 g7)
  | iload i =>
    cases of_decide_eq_true hE2
    obtain ⟨x, hv, hK1⟩ := az_ldi_inv hgo
    exact lv_iload hx hb hE1 (g1.2.2 _ _ hv) (hk _ hK1 ls H locs g1 g2 g3 g4 g5 g6 g7)
  | lload_n i =>
    cases of_decide_eq_true hE2
    obtain ⟨x, hv, hK1⟩ := az_ldl_inv hgo
    exact lv_lload_n hx hb hE1 rfl (g1.2.2 _ _ hv) (hk _ hK1 ls H locs g1 g2 g3 g4 g5 g6 g7)
  | lload i =>
    cases of_decide_eq_true hE2
    obtain ⟨x, hv, hK1⟩ := az_ldl_inv hgo
    exact lv_lload hx hb hE1 (g1.2.2 _ _ hv) (hk _ hK1 ls H locs g1 g2 g3 g4 g5 g6 g7)
  | aload_n i =>
    cases of_decide_eq_true hE2
    rcases az_lda_inv hgo with ⟨x, hv, hK1⟩ | ⟨hv, hK1⟩
    · exact lv_aload_n hx hb hE1 rfl (g1.2.2 _ _ hv) (hk _ hK1 ls H locs g1 g2 g3 g4 g5 g6 g7)
    · exact lv_aload_nN hx hb hE1 rfl (g1.2.2 _ _ hv) (hk _ hK1 ls H locs g1 g2 g3 g4 g5 g6 g7)
  | aload i =>
    cases of_decide_eq_true hE2
    rcases az_lda_inv hgo with ⟨x, hv, hK1⟩ | ⟨hv, hK1⟩
    · exact lv_aload hx hb hE1 (g1.2.2 _ _ hv) (hk _ hK1 ls H locs g1 g2 g3 g4 g5 g6 g7)
    · exact lv_aloadN hx hb hE1 (g1.2.2 _ _ hv) (hk _ hK1 ls H locs g1 g2 g3 g4 g5 g6 g7)
  | istore_n i =>
    have hE2 := Bool.and_eq_true_iff.mp hE2
    cases of_decide_eq_true hE2.1
    obtain ⟨x, r, rfl, hK1⟩ := az_sti_inv hgo
    exact lv_istore_n hx hb hE1 rfl g1.list (of_decide_eq_true hE2.2) rfl fun ls' hl' => hk _ hK1 ls' H locs (g1.s1 hl') g2 g3 g4 g5 g6 g7
  | istore i =>
    have hE2 := Bool.and_eq_true_iff.mp hE2
    cases of_decide_eq_true hE2.1
    obtain ⟨x, r, rfl, hK1⟩ := az_sti_inv hgo
    exact lv_istore hx hb hE1 g1.list (of_decide_eq_true hE2.2) rfl fun ls' hl' => hk _ hK1 ls' H locs (g1.s1 hl') g2 g3 g4 g5 g6 g7
  | lstore_n i =>
    have hE2 := Bool.and_eq_true_iff.mp hE2
    cases of_decide_eq_true hE2.1
    obtain ⟨x, r, rfl, hK1⟩ := az_stl_inv hgo
    exact lv_lstore_n hx hb hE1 rfl g1.list (of_decide_eq_true hE2.2) rfl fun ls' hl' => hk _ hK1 ls' H locs (g1.s2 hl') g2 g3 g4 g5 g6 g7
  | lstore i =>
    have hE2 := Bool.and_eq_true_iff.mp hE2
    cases of_decide_eq_true hE2.1
    obtain ⟨x, r, rfl, hK1⟩ := az_stl_inv hgo
    exact lv_lstore hx hb hE1 g1.list (of_decide_eq_true hE2.2) rfl fun ls' hl' => hk _ hK1 ls' H locs (g1.s2 hl') g2 g3 g4 g5 g6 g7
  | astore_n i =>
    have hE2 := Bool.and_eq_true_iff.mp hE2
    cases of_decide_eq_true hE2.1
    rcases az_sta_inv hgo with ⟨x, r, rfl, hK1⟩ | ⟨r, rfl, hK1⟩
    · exact lv_astore_n hx hb hE1 rfl g1.list (of_decide_eq_true hE2.2) rfl fun ls' hl' => hk _ hK1 ls' H locs (g1.s1 hl') g2 g3 g4 g5 g6 g7
    · exact lv_astore_nN hx hb hE1 rfl g1.list (of_decide_eq_true hE2.2) rfl fun ls' hl' => hk _ hK1 ls' H locs (g1.s1 hl') g2 g3 g4 g5 g6 g7
  | astore i =>
    have hE2 := Bool.and_eq_true_iff.mp hE2
    cases of_decide_eq_true hE2.1
    rcases az_sta_inv hgo with ⟨x, r, rfl, hK1⟩ | ⟨r, rfl, hK1⟩
    · exact lv_astore hx hb hE1 g1.list (of_decide_eq_true hE2.2) rfl fun ls' hl' => hk _ hK1 ls' H locs (g1.s1 hl') g2 g3 g4 g5 g6 g7
    · exact lv_astoreN hx hb hE1 g1.list (of_decide_eq_true hE2.2) rfl fun ls' hl' => hk _ hK1 ls' H locs (g1.s1 hl') g2 g3 g4 g5 g6 g7
  | iinc i v =>
    cases of_decide_eq_true hE2
    obtain ⟨x, hv, hK1⟩ := az_inc_inv hgo
    obtain ⟨q, hq⟩ := List.getElem?_of_mem (az_ll0_mem.mpr ⟨g1.lt hv, hv⟩)
    exact lv_iinc hx hb hE1 g1.list hq rfl (g1.lt hv) rfl fun ls' hl' => hk _ hK1 ls' H locs (g1.s1 hl') g2 g3 g4 g5 g6 g7
  | iconst v =>
    have hE2 := Bool.and_eq_true_iff.mp hE2
    cases of_decide_eq_true hE2.1
    exact lv_iconst hx hb hE1 (of_decide_eq_true hE2.2) (hk _ hgo ls H locs g1 g2 g3 g4 g5 g6 g7)
  | bipush v =>
    have hE2 := Bool.and_eq_true_iff.mp hE2
    cases of_decide_eq_true hE2.1
    exact lv_bipush hx hb hE1 (of_decide_eq_true hE2.2) (hk _ hgo ls H locs g1 g2 g3 g4 g5 g6 g7)
  | sipush v =>
    have hE2 := Bool.and_eq_true_iff.mp hE2
    cases of_decide_eq_true hE2.1
    exact lv_sipush hx hb hE1 (of_decide_eq_true hE2.2) (hk _ hgo ls H locs g1 g2 g3 g4 g5 g6 g7)
  | ldc v =>
    have hE2 := Bool.and_eq_true_iff.mp hE2
    cases of_decide_eq_true hE2.1
    exact lv_ldc hx hb hown (az_word hts (az_wl_in oc _ (of_decide_eq_true hE2.2)) rfl) hE1 (hk _ hgo ls H locs g1 g2 g3 g4 g5 g6 g7)
  | lconst v =>
    have hE2 := Bool.and_eq_true_iff.mp hE2
    cases of_decide_eq_true hE2.1
    exact lv_lconst hx hb hE1 (of_decide_eq_true hE2.2) (hk _ hgo ls H locs g1 g2 g3 g4 g5 g6 g7)
  | ldc2_w v =>
    have hE2 := Bool.and_eq_true_iff.mp hE2
    cases of_decide_eq_true hE2.1
    exact lv_ldc2 hx hb hown (az_word hts (az_wl_in oc _ (of_decide_eq_true hE2.2)) rfl) hE1 (hk _ hgo ls H locs g1 g2 g3 g4 g5 g6 g7)
  | aconst_null =>
    cases of_decide_eq_true hE2
    exact lv_null hx hb hE1 (hk _ hgo ls H locs g1 g2 g3 g4 g5 g6 g7)
  | iadd =>
    cases of_decide_eq_true hE2
    obtain ⟨x, y, r, rfl, hK1⟩ := az_ii_inv hgo
    exact lv_iadd hx hb hE1 (hk _ hK1 ls H locs g1 g2 g3 g4 g5 g6 g7)
  | isub =>
    cases of_decide_eq_true hE2
    obtain ⟨x, y, r, rfl, hK1⟩ := az_ii_inv hgo
    exact lv_isub hx hb hE1 (hk _ hK1 ls H locs g1 g2 g3 g4 g5 g6 g7)
  | imul =>
    cases of_decide_eq_true hE2
    obtain ⟨x, y, r, rfl, hK1⟩ := az_ii_inv hgo
    exact lv_imul hx hb hE1 (hk _ hK1 ls H locs g1 g2 g3 g4 g5 g6 g7)
  | iand =>
    cases of_decide_eq_true hE2
    obtain ⟨x, y, r, rfl, hK1⟩ := az_ii_inv hgo
    exact lv_iand hx hb hE1 (hk _ hK1 ls H locs g1 g2 g3 g4 g5 g6 g7)
  | ior =>
    cases of_decide_eq_true hE2
    obtain ⟨x, y, r, rfl, hK1⟩ := az_ii_inv hgo
    exact lv_ior hx hb hE1 (hk _ hK1 ls H locs g1 g2 g3 g4 g5 g6 g7)
  | ishl =>
    cases of_decide_eq_true hE2
    obtain ⟨x, y, r, rfl, hK1⟩ := az_ii_inv hgo
    exact lv_ishl hx hb hE1 (hk _ hK1 ls H locs g1 g2 g3 g4 g5 g6 g7)
  | ladd =>
    cases of_decide_eq_true hE2
    obtain ⟨x, y, r, rfl, hK1⟩ := az_ll_inv hgo
    exact lv_ladd hx hb hE1 (hk _ hK1 ls H locs g1 g2 g3 g4 g5 g6 g7)
  | lsub =>
    cases of_decide_eq_true hE2
    obtain ⟨x, y, r, rfl, hK1⟩ := az_ll_inv hgo
    exact lv_lsub hx hb hE1 (hk _ hK1 ls H locs g1 g2 g3 g4 g5 g6 g7)
  | lmul =>
    cases of_decide_eq_true hE2
    obtain ⟨x, y, r, rfl, hK1⟩ := az_ll_inv hgo
    exact lv_lmul hx hb hE1 (hk _ hK1 ls H locs g1 g2 g3 g4 g5 g6 g7)
  | ldiv =>
    cases of_decide_eq_true hE2
    obtain ⟨x, y, r, rfl, hne, hK1⟩ := az_ldv_inv hgo
    exact lv_ldiv hx hb hE1 hne (hk _ hK1 ls H locs g1 g2 g3 g4 g5 g6 g7)
  | lrem =>
    cases of_decide_eq_true hE2
    obtain ⟨x, y, r, rfl, hne, hK1⟩ := az_ldv_inv hgo
    exact lv_lrem hx hb hE1 hne (hk _ hK1 ls H locs g1 g2 g3 g4 g5 g6 g7)
  | lcmp =>
    cases of_decide_eq_true hE2
    obtain ⟨x, y, r, rfl, hK1⟩ := az_cmp_inv hgo
    exact W.lcmp hx hb hE1 (hk _ hK1 ls H locs g1 g2 g3 g4 g5 g6 g7)
  | i2l =>
    cases of_decide_eq_true hE2
    obtain ⟨x, r, rfl, hK1⟩ := az_il_inv hgo
    exact lv_i2l hx hb hE1 rfl (hk _ hK1 ls H locs g1 g2 g3 g4 g5 g6 g7)
  | l2i =>
    cases of_decide_eq_true hE2
    obtain ⟨x, r, rfl, hK1⟩ := az_li_inv hgo
    exact lv_l2i hx hb hE1 rfl (hk _ hK1 ls H locs g1 g2 g3 g4 g5 g6 g7)
  | dup =>
    cases of_decide_eq_true hE2
    obtain ⟨v, r, rfl, hv, hK1⟩ := az_dup_inv hgo
    exact lv_dup hx hb hE1 hv (hk _ hK1 ls H locs g1 g2 g3 g4 g5 g6 g7)
  | dup2 =>
    cases of_decide_eq_true hE2
    rcases az_dup2_inv hgo with ⟨v, w, r, rfl, hv, hw, hK1⟩ | ⟨v, r, rfl, hv, hK1⟩
    · exact lv_dup2_11 hx hb hE1 hv hw (hk _ hK1 ls H locs g1 g2 g3 g4 g5 g6 g7)
    · exact lv_dup2_2 hx hb hE1 hv (hk _ hK1 ls H locs g1 g2 g3 g4 g5 g6 g7)
  | goto o =>
    have hE2 := Bool.and_eq_true_iff.mp hE2
    cases of_decide_eq_true hE2.1
    exact lv_goto hx hb hE1 (of_decide_eq_true hE2.2) (hk _ hgo ls H locs g1 g2 g3 g4 g5 g6 g7)
  | ifCond q o =>
    have hE2 := Bool.and_eq_true_iff.mp hE2
    cases of_decide_eq_true hE2.1
    obtain ⟨x, r, rfl, hK1⟩ := az_if1_inv hgo
    have ht := of_decide_eq_true hE2.2
    have kk : ∀ t : Nat, (if az_c1 q x = true then a else pc + 3) = t → W p l e R s m args below meth c H locs (h.2.1 - s.heap.size) (h.2.2 - sl0) Q (F0 m t ls r) := fun t ht => by
      subst ht
      exact hk _ hK1 ls H locs g1 g2 g3 g4 g5 g6 g7
    cases q with
    | eq => exact lv_if_eq hx hb hE1 ht (fun y => kk _ (if_pos (decide_eq_true y))) (fun y => kk _ (if_neg (fun z => y (of_decide_eq_true z))))
    | ne => exact lv_if_ne hx hb hE1 ht (fun y => kk _ (if_pos (decide_eq_true y))) (fun y => kk _ (if_neg (fun z => (of_decide_eq_true z) y)))
    | lt => exact lv_if_lt hx hb hE1 ht (fun y => kk _ (if_pos (decide_eq_true y))) (fun y => kk _ (if_neg (fun z => y (of_decide_eq_true z))))
    | ge => exact lv_if_ge hx hb hE1 ht (fun y => kk _ (if_pos (decide_eq_true y))) (fun y => kk _ (if_neg (fun z => y (of_decide_eq_true z))))
    | gt => exact lv_if_gt hx hb hE1 ht (fun y => kk _ (if_pos (decide_eq_true y))) (fun y => kk _ (if_neg (fun z => y (of_decide_eq_true z))))
    | le => exact lv_if_le hx hb hE1 ht (fun y => kk _ (if_pos (decide_eq_true y))) (fun y => kk _ (if_neg (fun z => y (of_decide_eq_true z))))
  | if_icmp q o =>
    have hE2 := Bool.and_eq_true_iff.mp hE2
    cases of_decide_eq_true hE2.1
    obtain ⟨x, y', r, rfl, hK1⟩ := az_if2_inv hgo
    have ht := of_decide_eq_true hE2.2
    have kk : ∀ t : Nat, (if az_c2 q x y' = true then a else pc + 3) = t → W p l e R s m args below meth c H locs (h.2.1 - s.heap.size) (h.2.2 - sl0) Q (F0 m t ls r) := fun t ht => by
      subst ht
      exact hk _ hK1 ls H locs g1 g2 g3 g4 g5 g6 g7
    cases q with
    | eq => exact lv_icmp_eq hx hb hE1 ht (fun y => kk _ (if_pos (decide_eq_true y))) (fun y => kk _ (if_neg (fun z => y (of_decide_eq_true z))))
    | ne => exact lv_icmp_ne hx hb hE1 ht (fun y => kk _ (if_pos (decide_eq_true y))) (fun y => kk _ (if_neg (fun z => (of_decide_eq_true z) y)))
    | lt => exact lv_icmp_lt hx hb hE1 ht (fun y => kk _ (if_pos (decide_eq_true y))) (fun y => kk _ (if_neg (fun z => y (of_decide_eq_true z))))
    | ge => exact lv_icmp_ge hx hb hE1 ht (fun y => kk _ (if_pos (decide_eq_true y))) (fun y => kk _ (if_neg (fun z => y (of_decide_eq_true z))))
    | gt => exact lv_icmp_gt hx hb hE1 ht (fun y => kk _ (if_pos (decide_eq_true y))) (fun y => kk _ (if_neg (fun z => y (of_decide_eq_true z))))
    | le => exact lv_icmp_le hx hb hE1 ht (fun y => kk _ (if_pos (decide_eq_true y))) (fun y => kk _ (if_neg (fun z => y (of_decide_eq_true z))))
  | ifnull o =>
    have hE2 := Bool.and_eq_true_iff.mp hE2
    cases of_decide_eq_true hE2.1
    rcases az_nul_inv hgo with ⟨r, rfl, hK1⟩ | ⟨x, r, rfl, hK1⟩
    · exact lv_ifnullN hx hb hE1 (of_decide_eq_true hE2.2) (hk _ hK1 ls H locs g1 g2 g3 g4 g5 g6 g7)
    · exact lv_ifnull hx hb hE1 (hk _ hK1 ls H locs g1 g2 g3 g4 g5 g6 g7)
  | ifnonnull o =>
    have hE2 := Bool.and_eq_true_iff.mp hE2
    cases of_decide_eq_true hE2.1
    rcases az_nul_inv hgo with ⟨r, rfl, hK1⟩ | ⟨x, r, rfl, hK1⟩
    · exact lv_ifnonnullN hx hb hE1 (hk _ hK1 ls H locs g1 g2 g3 g4 g5 g6 g7)
    · exact lv_ifnonnull hx hb hE1 (of_decide_eq_true hE2.2) (hk _ hK1 ls H locs g1 g2 g3 g4 g5 g6 g7)
  | tableswitch dd lo hi offs =>
    have hE2 := Bool.and_eq_true_iff.mp hE2
    have hE3 := Bool.and_eq_true_iff.mp hE2.1
    obtain ⟨x, r, rfl, hK1⟩ := az_swi_inv hgo
    have hlen := of_decide_eq_true hE3.1
    have kk := hk _ hK1 ls H locs g1 g2 g3 g4 g5 g6 g7
    rcases az_selT (of_decide_eq_true hE3.2) offs.toList lo x.toInt hE2.2 with ⟨h1, h2⟩ | ⟨h1, h2, o, h3, h4⟩
    · exact lv_tableOut hx hb hE1 (by omega) h2.symm kk
    · exact lv_tableIn hx hb hE1 (by omega) (by omega) (by rw [← Array.getElem?_toList]; exact h3) h4.symm kk
  | getfield kx =>
    have hE2 := Bool.and_eq_true_iff.mp hE2
    cases of_decide_eq_true hE2.1
    obtain ⟨a0, r, fs, v, rfl, hc, hv, hK1⟩ := az_gf_inv hgo
    have hF := hE2.2
    unfold az_okF at hF
    split at hF
    · rename_i T N hcl
      obtain ⟨c1, c2, c3, c4, c5, c6, c7⟩ := az_cls _ _ hcl
      have hF := Bool.and_eq_true_iff.mp hF
      obtain ⟨q0, hq⟩ := az_ws_get (cy := cy) g5 hc (az_ne_ob c7)
      rcases Bool.or_eq_true_iff.mp hF.2 with hl | hl
      · exact va_get hx hb hts c1 hown hK.1 g2 q0 hq hcl b (of_decide_eq_true hF.1) (az_word hts (az_wl_in oc _ (of_decide_eq_true hl)) rfl) (fun _ z => z) hv hE1 (hk _ hK1 ls H locs g1 g2 g3 g4 g5 g6 g7)
      · exact va_getN hx hb hts c1 hown hK.1 g2 q0 hq hcl b (of_decide_eq_true hF.1) (az_nestw hK (of_decide_eq_true hl) rfl) (fun _ z => z) hv hE1 (hk _ hK1 ls H locs g1 g2 g3 g4 g5 g6 g7)
    · cases hF
  | putfield kx =>
    have hE2 := Bool.and_eq_true_iff.mp hE2
    have hE3 := Bool.and_eq_true_iff.mp hE2.1
    cases of_decide_eq_true hE3.1
    obtain ⟨v, a0, r, fs, rfl, hc, hlt, hfit, hK1⟩ := az_pf_inv hgo
    have hF := hE3.2
    have hPp := hE2.2
    unfold az_okF at hF
    unfold az_okP at hPp
    split at hF
    · rename_i T N hcl
      rw [hcl] at hPp
      dsimp only at hPp
      obtain ⟨c1, ⟨ty0, c2, -⟩, c3, c4, c5, c6, c7⟩ := az_cls _ _ hcl
      have hF := Bool.and_eq_true_iff.mp hF
      have hPp := Bool.and_eq_true_iff.mp hPp
      have hbN := of_decide_eq_true hF.1
      obtain ⟨q0, hq⟩ := az_ws_get (cy := cy) g5 hc (az_ne_ob c7)
      have hty := c2 b hbN
      have hfo := az_fit_ok hfit (by
        have z := hPp.2
        dsimp only at hty
        rw [hty] at z
        exact z)
      have kk : ∀ (H1 : Heap) (locs1 : List Loc), va_P D vwCl ((az_ws base cy h).set q0 (a0, .inr (a, fs.set b v))) H1 → va_D (fun q => base ≤ q) ((az_ws base cy h).set q0 (a0, .inr (a, fs.set b v))) → va_S (fun q => base ≤ q) H H1 locs1 → W p l e R s m args below meth c H1 locs1 (h.2.1 - s.heap.size) (h.2.2 - sl0) Q (F0 m (pc + 3) ls r) := fun H1 locs1 hP1 _ hS1 => az_after g3 g4 g6 hS1 fun hS2 hz => hk _ hK1 ls H1 locs1 g1 (by
        have z := az_ws_set (c' := az_ob a (fs.set b v)) g5 hc (az_ne_ob c7) hq
        rw [← z]
        exact hP1) hS2 hz (az_reg_uh g5 hc (az_ne_ob c7)) g6 g7
      cases hfin : (T b).2.2.2 with
      | false =>
        rcases Bool.or_eq_true_iff.mp hF.2 with hl | hl
        · exact va_put hx hb hts c1 ty0 c2 c3 hown hK.1 g2 az_D (az_Srf g3) q0 hq hcl b hbN (az_word hts (az_wl_in oc _ (of_decide_eq_true hl)) rfl) (fun _ z => z) hfin hty hfo.1 hfo.2 hlt hE1 kk
        · exact va_putN hx hb hts c1 ty0 c2 c3 hown hK.1 g2 az_D (az_Srf g3) q0 hq hcl b hbN (az_nestw hK (of_decide_eq_true hl) rfl) (fun _ z => z) hfin hty hfo.1 hfo.2 hlt hE1 kk
      | true =>
        have hz := hPp.1
        rw [hfin] at hz
        have hz := Bool.and_eq_true_iff.mp (by simpa using hz : (ini && decide ((T b).1 = az_own oc) && decide (Cond.fieldLink (az_own oc) kx (T b).1 (T b).2.1 (T b).2.2.1 ∈ az_wl oc)) = true)
        have hz1 := Bool.and_eq_true_iff.mp hz.1
        exact va_putF hx hb hts c1 ty0 c2 c3 hown hK.1 g2 az_D (az_Srf g3) q0 hq hcl b hbN (az_word hts (az_wl_in oc _ (of_decide_eq_true hz.2)) rfl) (fun _ z => z) hfin (hini hz1.1) (of_decide_eq_true hz1.2) hty hfo.1 hfo.2 hlt hE1 kk
    · cases hF
  | iaload =>
    cases of_decide_eq_true hE2
    obtain ⟨i, a0, r, n0, g, rfl, hc, hi0, hi1, hK1⟩ := az_ial_inv hgo
    have kk := hk _ hK1 ls H locs g1 g2 g3 g4 g5 g6 g7
    cases hXa : X a0 with
    | none =>
      rw [hXa] at hc
      obtain ⟨q0, hq⟩ := az_ws_get (cy := cy) g5 hc az_ne_ia
      refine va_iald hx hb hK.1 g2 q0 0 hq rfl (az_pin hi0 hi1) hE1 ?_
      rw [az_nat hi0]
      exact kk
    | some c0 =>
      rw [hXa] at hc
      obtain ⟨L, xs, e1, e2, e3, e4⟩ := hX a0 c0 hXa
      have e5 : az_ia 0 L xs = az_ia 0 n0 g := e1.symm.trans hc
      cases e5
      refine va_sld hx hb e2 e3 e4 g3 (az_pin hi0 hi1) hE1 ?_
      rw [az_nat hi0]
      exact kk
  | baload =>
    cases of_decide_eq_true hE2
    obtain ⟨i, a0, r, n0, g, rfl, hc, hi0, hi1, hK1⟩ := az_ial_inv hgo
    have kk := hk _ hK1 ls H locs g1 g2 g3 g4 g5 g6 g7
    cases hXa : X a0 with
    | none =>
      rw [hXa] at hc
      obtain ⟨q0, hq⟩ := az_ws_get (cy := cy) g5 hc az_ne_ia
      refine va_zald hx hb hK.1 g2 q0 1 hq rfl (az_pin hi0 hi1) hE1 ?_
      rw [az_nat hi0]
      exact kk
    | some c0 =>
      rw [hXa] at hc
      obtain ⟨L, xs, e1, e2, e3, e4⟩ := hX a0 c0 hXa
      have e5 : az_ia 0 L xs = az_ia 1 n0 g := e1.symm.trans hc
      cases e5
  | laload =>
    cases of_decide_eq_true hE2
    obtain ⟨i, a0, r, n0, g, rfl, hc, hi0, hi1, hK1⟩ := az_lal_inv hgo
    have kk := hk _ hK1 ls H locs g1 g2 g3 g4 g5 g6 g7
    obtain ⟨q0, hq⟩ := az_ws_get (cy := cy) g5 hc az_ne_la
    refine va_lald hx hb hK.1 g2 q0 2 hq rfl (az_pin hi0 hi1) hE1 ?_
    rw [az_nat hi0]
    exact kk
  | aaload =>
    cases of_decide_eq_true hE2
    obtain ⟨i, a0, r, t, n0, g, rfl, hc, ht, hi0, hi1, hK1⟩ := az_aal_inv hgo
    have kk := hk _ hK1 ls H locs g1 g2 g3 g4 g5 g6 g7
    obtain ⟨q0, hq⟩ := az_ws_get (cy := cy) g5 hc az_ne_ra
    rcases (show t = 0 ∨ t = 1 by omega) with rfl | rfl
    · refine va_aldq hx hb hK.1 g2 q0 3 hq rfl (az_pin hi0 hi1) hE1 ?_
      rw [az_nat hi0]
      exact kk
    · refine va_aldq hx hb hK.1 g2 q0 4 hq rfl (az_pin hi0 hi1) hE1 ?_
      rw [az_nat hi0]
      exact kk
  | iastore =>
    cases of_decide_eq_true hE2
    obtain ⟨x, i, a0, r, n0, g, rfl, hc, hi0, hi1, hK1⟩ := az_ias_inv hgo
    obtain ⟨q0, hq⟩ := az_ws_get (cy := cy) g5 hc az_ne_ia
    refine va_iast hx hb hK.1 g2 az_D (az_Srf g3) q0 0 hq rfl (az_pin hi0 hi1) hE1 fun H1 locs1 hP1 _ hS1 => az_after g3 g4 g6 hS1 fun hS2 hz => hk _ hK1 ls H1 locs1 g1 ?_ hS2 hz (az_reg_uh g5 hc az_ne_ia) g6 g7
    have z := az_ws_set (c' := az_ia 0 n0 (az_ui g i.toInt x)) g5 hc az_ne_ia hq
    rw [← z]
    rw [az_upd hi0] at hP1
    exact hP1
  | bastore =>
    cases of_decide_eq_true hE2
    obtain ⟨x, i, a0, r, n0, g, rfl, hc, hx01, hi0, hi1, hK1⟩ := az_zas_inv hgo
    obtain ⟨q0, hq⟩ := az_ws_get (cy := cy) g5 hc az_ne_ia
    refine va_zast hx hb hK.1 g2 az_D (az_Srf g3) q0 1 hq rfl (az_pin hi0 hi1) hE1 fun H1 locs1 hP1 _ hS1 => az_after g3 g4 g6 hS1 fun hS2 hz => hk _ hK1 ls H1 locs1 g1 ?_ hS2 hz (az_reg_uh g5 hc az_ne_ia) g6 g7
    have z := az_ws_set (c' := az_ia 1 n0 (az_ui g i.toInt x)) g5 hc az_ne_ia hq
    rw [← z]
    rw [show vp_nar .boolean x = x by rcases hx01 with rfl | rfl <;> rfl, az_upd hi0] at hP1
    exact hP1
  | lastore =>
    cases of_decide_eq_true hE2
    obtain ⟨x, i, a0, r, n0, g, rfl, hc, hi0, hi1, hK1⟩ := az_las_inv hgo
    obtain ⟨q0, hq⟩ := az_ws_get (cy := cy) g5 hc az_ne_la
    refine va_last hx hb hK.1 g2 az_D (az_Srf g3) q0 2 hq rfl (az_pin hi0 hi1) hE1 fun H1 locs1 hP1 _ hS1 => az_after g3 g4 g6 hS1 fun hS2 hz => hk _ hK1 ls H1 locs1 g1 ?_ hS2 hz (az_reg_uh g5 hc az_ne_la) g6 g7
    have z := az_ws_set (c' := az_la n0 (az_ui g i.toInt x)) g5 hc az_ne_la hq
    rw [← z]
    rw [az_updL hi0] at hP1
    exact hP1
  | aastore =>
    cases of_decide_eq_true hE2
    obtain ⟨v, i, a0, r, t, n0, g, fs, rfl, hc, hv, ht, hi0, hi1, hK1⟩ := az_aas_inv hgo
    obtain ⟨q0, hq⟩ := az_ws_get (cy := cy) g5 hc az_ne_ra
    rcases (show t = 0 ∨ t = 1 by omega) with rfl | rfl
    · obtain ⟨q1, hq1⟩ := az_ws_get (cy := cy) g5 hv (az_ne_ob (by decide))
      refine va_astq hx hb hK.1 g2 az_D (az_Srf g3) q0 3 q1 0 hq rfl hq1 rfl (az_pin hi0 hi1) hE1 fun H1 locs1 hP1 _ hS1 => az_after g3 g4 g6 hS1 fun hS2 hz => hk _ hK1 ls H1 locs1 g1 ?_ hS2 hz (az_reg_uh g5 hc az_ne_ra) g6 g7
      have z := az_ws_set (c' := az_ra 0 n0 (az_ui g i.toInt (some v))) g5 hc az_ne_ra hq
      rw [← z]
      rw [az_upR hi0] at hP1
      exact hP1
    · obtain ⟨q1, hq1⟩ := az_ws_get (cy := cy) g5 hv (az_ne_ob (by decide))
      refine va_astq hx hb hK.1 g2 az_D (az_Srf g3) q0 4 q1 8 hq rfl hq1 rfl (az_pin hi0 hi1) hE1 fun H1 locs1 hP1 _ hS1 => az_after g3 g4 g6 hS1 fun hS2 hz => hk _ hK1 ls H1 locs1 g1 ?_ hS2 hz (az_reg_uh g5 hc az_ne_ra) g6 g7
      have z := az_ws_set (c' := az_ra 1 n0 (az_ui g i.toInt (some v))) g5 hc az_ne_ra hq
      rw [← z]
      rw [az_upR hi0] at hP1
      exact hP1
  | arraylength =>
    cases of_decide_eq_true hE2
    obtain ⟨a0, r, n0, rfl, hc, hK1⟩ := az_aln_inv hgo
    have kk := hk _ hK1 ls H locs g1 g2 g3 g4 g5 g6 g7
    cases hXa : X a0 with
    | none =>
      rw [hXa] at hc
      have hc : az_len (h.1 a0) = some n0 := hc
      unfold az_len at hc
      split at hc
      · rename_i t n1 g ha
        split at hc
        · rename_i ht
          cases hc
          obtain ⟨q0, hq⟩ := az_ws_get (cy := cy) g5 ha az_ne_ia
          rcases (show t = 0 ∨ t = 1 by omega) with rfl | rfl
          · exact va_alen hx hb hK.1 g2 q0 0 hq rfl rfl hE1 kk
          · exact va_alen hx hb hK.1 g2 q0 1 hq rfl rfl hE1 kk
        · cases hc
      · rename_i n1 g ha
        cases hc
        obtain ⟨q0, hq⟩ := az_ws_get (cy := cy) g5 ha az_ne_la
        exact va_alen hx hb hK.1 g2 q0 2 hq rfl rfl hE1 kk
      · rename_i t n1 g ha
        split at hc
        · rename_i ht
          cases hc
          obtain ⟨q0, hq⟩ := az_ws_get (cy := cy) g5 ha az_ne_ra
          rcases (show t = 0 ∨ t = 1 by omega) with rfl | rfl
          · exact va_alen hx hb hK.1 g2 q0 3 hq rfl rfl hE1 kk
          · exact va_alen hx hb hK.1 g2 q0 4 hq rfl rfl hE1 kk
        · cases hc
      · cases hc
    | some c0 =>
      rw [hXa] at hc
      obtain ⟨L, xs, e1, e2, e3, e4⟩ := hX a0 c0 hXa
      have hc : az_len c0 = some n0 := hc
      rw [e1] at hc
      have hc : some L = some n0 := hc
      cases hc
      exact va_slen hx hb e2 e3 e4 g3 hE1 kk
  | new kx =>
    have hE2 := Bool.and_eq_true_iff.mp hE2
    cases of_decide_eq_true hE2.1
    have hF := hE2.2
    split at hF
    · rename_i rr hcl
      obtain ⟨c1, ⟨ty0, c2, c2z⟩, c3, c4, c5, c6, c7⟩ := az_cls _ _ hcl
      have hK1 : K (pc + 3, lv, .ref h.2.1 :: st, az_nw h (az_ob a (az_z a)) (az_z a).length) := hgo
      have hm1 := hm _ hK1 (az_reg_nw g5)
      have hm1a : h.2.1 + 1 - s.heap.size ≤ R.cells := hm1.1
      have hm1b : h.2.2 + (az_z a).length - sl0 ≤ R.slots := hm1.2
      refine va_new (T := rr.2.1) (N := rr.2.2) hx hb hts c1 ty0 c2 hown (az_word hts (az_wl_in oc _ (of_decide_eq_true hF)) rfl) (hts _ c4) (hts _ c5) hK.1 g2 az_D (az_Srf g3) hAA hcl c2z (by omega) (by omega) hE1 fun q H1 hP1 hD1 hS1 => az_ub fun hu => ?_
      obtain ⟨e1, e2⟩ := az_qtop g5 hP1 hD1 (by omega)
      subst e1
      have z := az_ws_push (c := az_ob a (az_z a)) (n := (az_z a).length) (cy := cy) g5
      have kk := hk _ hK1 ls H1 locs g1 (by rw [← z]; exact hP1) (az_Scomp g3 hS1) e2 (az_reg_nw g5) (Nat.le_succ_of_le g6) (Nat.le_trans g7 (Nat.le_add_right _ _))
      have kk : W p l e R s m args below meth c H1 locs (h.2.1 + 1 - s.heap.size) (h.2.2 + (az_z a).length - sl0) Q (F0 m (pc + 3) ls (.ref h.2.1 :: st)) := kk
      rw [show h.2.1 + 1 - s.heap.size = h.2.1 - s.heap.size + 1 by omega, show h.2.2 + (az_z a).length - sl0 = h.2.2 - sl0 + rr.2.2 by omega] at kk
      exact kk
    · cases hF
  | newarray t =>
    cases of_decide_eq_true hE2
    obtain ⟨nn, r, rfl, hn0, hn1, hK1⟩ := az_newa_inv hgo
    have hnn : nn.toNatClampNeg = nn.toInt.toNat := rfl
    have hneg : ¬ nn < 0 := fun q => by
      have := Int32.lt_iff_toInt_lt.mp q
      simp at this
      omega
    rcases hK1 with ⟨rfl, hK1⟩ | ⟨rfl, hK1⟩ | ⟨rfl, hK1⟩
    · have hm1 := hm _ hK1 (az_reg_nw g5)
      have hm1a : h.2.1 + 1 - s.heap.size ≤ R.cells := hm1.1
      have hm1b : h.2.2 + nn.toInt.toNat - sl0 ≤ R.slots := hm1.2
      refine va_newa (a0 := (nn.toInt.toNat, .inl (fun _ => 0))) hx hb (az_word hts (az_we_in _ (List.mem_of_getElem? (i := 24) rfl)) rfl) rfl hK.1 g2 az_D (az_Srf g3) hAA (fun cA => rfl) hneg hnn (by show _ * 4 ≤ _; omega) (by omega) (by omega) hE1 fun q cA H1 hKn hP1 hD1 hS1 => az_ub fun hu => ?_
      obtain ⟨e1, e2⟩ := az_qtop g5 hP1 hD1 (by omega)
      subst e1
      have e3 : cA = cy 0 := Option.some.inj ((hKn.2 5 (cA, .int) rfl).2.symm.trans (hK.1.2 0 (cy 0, .int) rfl).2)
      subst e3
      have z := az_ws_push (c := az_ia 0 nn.toInt.toNat (fun _ => 0)) (n := nn.toInt.toNat) (cy := cy) g5
      have kk := hk _ hK1 ls H1 locs g1 (by rw [← z]; exact hP1) (az_Scomp g3 hS1) e2 (az_reg_nw g5) (Nat.le_succ_of_le g6) (Nat.le_trans g7 (Nat.le_add_right _ _))
      have kk : W p l e R s m args below meth c H1 locs (h.2.1 + 1 - s.heap.size) (h.2.2 + nn.toInt.toNat - sl0) Q (F0 m (pc + 2) ls (.ref h.2.1 :: r)) := kk
      rw [show h.2.1 + 1 - s.heap.size = h.2.1 - s.heap.size + 1 by omega, show h.2.2 + nn.toInt.toNat - sl0 = h.2.2 - sl0 + nn.toInt.toNat by omega] at kk
      exact kk
    · have hm1 := hm _ hK1 (az_reg_nw g5)
      have hm1a : h.2.1 + 1 - s.heap.size ≤ R.cells := hm1.1
      have hm1b : h.2.2 + nn.toInt.toNat - sl0 ≤ R.slots := hm1.2
      refine va_newa (a0 := (nn.toInt.toNat, .inl (fun _ => 0))) hx hb (az_word hts (az_we_in _ (List.mem_of_getElem? (i := 25) rfl)) rfl) rfl hK.1 g2 az_D (az_Srf g3) hAA (fun cA => rfl) hneg hnn (by show _ * 1 ≤ _; omega) (by omega) (by omega) hE1 fun q cA H1 hKn hP1 hD1 hS1 => az_ub fun hu => ?_
      obtain ⟨e1, e2⟩ := az_qtop g5 hP1 hD1 (by omega)
      subst e1
      have e3 : cA = cy 1 := Option.some.inj ((hKn.2 5 (cA, .boolean) rfl).2.symm.trans (hK.1.2 1 (cy 1, .boolean) rfl).2)
      subst e3
      have z := az_ws_push (c := az_ia 1 nn.toInt.toNat (fun _ => 0)) (n := nn.toInt.toNat) (cy := cy) g5
      have kk := hk _ hK1 ls H1 locs g1 (by rw [← z]; exact hP1) (az_Scomp g3 hS1) e2 (az_reg_nw g5) (Nat.le_succ_of_le g6) (Nat.le_trans g7 (Nat.le_add_right _ _))
      have kk : W p l e R s m args below meth c H1 locs (h.2.1 + 1 - s.heap.size) (h.2.2 + nn.toInt.toNat - sl0) Q (F0 m (pc + 2) ls (.ref h.2.1 :: r)) := kk
      rw [show h.2.1 + 1 - s.heap.size = h.2.1 - s.heap.size + 1 by omega, show h.2.2 + nn.toInt.toNat - sl0 = h.2.2 - sl0 + nn.toInt.toNat by omega] at kk
      exact kk
    · have hm1 := hm _ hK1 (az_reg_nw g5)
      have hm1a : h.2.1 + 1 - s.heap.size ≤ R.cells := hm1.1
      have hm1b : h.2.2 + nn.toInt.toNat - sl0 ≤ R.slots := hm1.2
      refine va_newa (a0 := (nn.toInt.toNat, .inr (.inl (fun _ => 0)))) hx hb (az_word hts (az_we_in _ (List.mem_of_getElem? (i := 26) rfl)) rfl) rfl hK.1 g2 az_D (az_Srf g3) hAA (fun cA => rfl) hneg hnn (by show _ * 8 ≤ _; omega) (by omega) (by omega) hE1 fun q cA H1 hKn hP1 hD1 hS1 => az_ub fun hu => ?_
      obtain ⟨e1, e2⟩ := az_qtop g5 hP1 hD1 (by omega)
      subst e1
      have e3 : cA = cy 2 := Option.some.inj ((hKn.2 5 (cA, .long) rfl).2.symm.trans (hK.1.2 2 (cy 2, .long) rfl).2)
      subst e3
      have z := az_ws_push (c := az_la nn.toInt.toNat (fun _ => 0)) (n := nn.toInt.toNat) (cy := cy) g5
      have kk := hk _ hK1 ls H1 locs g1 (by rw [← z]; exact hP1) (az_Scomp g3 hS1) e2 (az_reg_nw g5) (Nat.le_succ_of_le g6) (Nat.le_trans g7 (Nat.le_add_right _ _))
      have kk : W p l e R s m args below meth c H1 locs (h.2.1 + 1 - s.heap.size) (h.2.2 + nn.toInt.toNat - sl0) Q (F0 m (pc + 2) ls (.ref h.2.1 :: r)) := kk
      rw [show h.2.1 + 1 - s.heap.size = h.2.1 - s.heap.size + 1 by omega, show h.2.2 + nn.toInt.toNat - sl0 = h.2.2 - sl0 + nn.toInt.toNat by omega] at kk
      exact kk
  | anewarray kx =>
    have hE2 := Bool.and_eq_true_iff.mp hE2
    have hE3 := Bool.and_eq_true_iff.mp hE2.1
    cases of_decide_eq_true hE3.1
    have ha2 := of_decide_eq_true hE3.2
    have hF := hE2.2
    obtain ⟨nn, r, rfl, hn0, hn1, hK1⟩ := az_newr_inv hgo
    have hnn : nn.toNatClampNeg = nn.toInt.toNat := rfl
    have hneg : ¬ nn < 0 := fun q => by
      have := Int32.lt_iff_toInt_lt.mp q
      simp at this
      omega
    have hm1 := hm _ hK1 (az_reg_nw g5)
    have hm1a : h.2.1 + 1 - s.heap.size ≤ R.cells := hm1.1
    have hm1b : h.2.2 + nn.toInt.toNat - sl0 ≤ R.slots := hm1.2
    rcases (show a = 0 ∨ a = 1 by omega) with rfl | rfl
    · refine va_newq (C := RX0) hx hb hown (az_word hts (az_wl_in oc _ (of_decide_eq_true hF)) rfl) hK.2.1 hK.1 g2 az_D (az_Srf g3) hAA hneg hnn (by omega) (by omega) (by omega) hE1 fun q cA H1 hKn hP1 hD1 hS1 => az_ub fun hu => ?_
      obtain ⟨e1, e2⟩ := az_qtop g5 hP1 hD1 (by omega)
      subst e1
      obtain ⟨_, _, _, _, _, f1⟩ := (hKn.2 5 (cA, .object RX0) rfl).2
      obtain ⟨_, _, _, _, _, f2⟩ := (hK.1.2 3 (cy 3, .object RX0) rfl).2
      have e3 : cA = cy 3 := Option.some.inj (f1.symm.trans f2)
      subst e3
      have z := az_ws_push (c := az_ra 0 nn.toInt.toNat (fun _ => none)) (n := nn.toInt.toNat) (cy := cy) g5
      have kk := hk _ hK1 ls H1 locs g1 (by rw [← z]; exact hP1) (az_Scomp g3 hS1) e2 (az_reg_nw g5) (Nat.le_succ_of_le g6) (Nat.le_trans g7 (Nat.le_add_right _ _))
      have kk : W p l e R s m args below meth c H1 locs (h.2.1 + 1 - s.heap.size) (h.2.2 + nn.toInt.toNat - sl0) Q (F0 m (pc + 3) ls (.ref h.2.1 :: r)) := kk
      rw [show h.2.1 + 1 - s.heap.size = h.2.1 - s.heap.size + 1 by omega, show h.2.2 + nn.toInt.toNat - sl0 = h.2.2 - sl0 + nn.toInt.toNat by omega] at kk
      exact kk
    · refine va_newq (C := RX8) hx hb hown (az_word hts (az_wl_in oc _ (of_decide_eq_true hF)) rfl) hK.2.2.1 hK.1 g2 az_D (az_Srf g3) hAA hneg hnn (by omega) (by omega) (by omega) hE1 fun q cA H1 hKn hP1 hD1 hS1 => az_ub fun hu => ?_
      obtain ⟨e1, e2⟩ := az_qtop g5 hP1 hD1 (by omega)
      subst e1
      obtain ⟨_, _, _, _, _, f1⟩ := (hKn.2 5 (cA, .object RX8) rfl).2
      obtain ⟨_, _, _, _, _, f2⟩ := (hK.1.2 4 (cy 4, .object RX8) rfl).2
      have e3 : cA = cy 4 := Option.some.inj (f1.symm.trans f2)
      subst e3
      have z := az_ws_push (c := az_ra 1 nn.toInt.toNat (fun _ => none)) (n := nn.toInt.toNat) (cy := cy) g5
      have kk := hk _ hK1 ls H1 locs g1 (by rw [← z]; exact hP1) (az_Scomp g3 hS1) e2 (az_reg_nw g5) (Nat.le_succ_of_le g6) (Nat.le_trans g7 (Nat.le_add_right _ _))
      have kk : W p l e R s m args below meth c H1 locs (h.2.1 + 1 - s.heap.size) (h.2.2 + nn.toInt.toNat - sl0) Q (F0 m (pc + 3) ls (.ref h.2.1 :: r)) := kk
      rw [show h.2.1 + 1 - s.heap.size = h.2.1 - s.heap.size + 1 by omega, show h.2.2 + nn.toInt.toNat - sl0 = h.2.2 - sl0 + nn.toInt.toNat by omega] at kk
      exact kk
  | invokevirtual kx =>
    have hE2 := Bool.and_eq_true_iff.mp hE2
    cases of_decide_eq_true hE2.1
    have hF := hE2.2
    unfold az_okV at hF
    split at hF
    · rename_i q rr hq hcl
      simp only [Bool.and_eq_true, decide_eq_true_eq] at hF
      obtain ⟨⟨⟨⟨f1, f2⟩, f3⟩, f4⟩, f5⟩ := hF
      obtain ⟨as, a0, r, fs, rfl, hal, hob, hcat, v, h', hcall, hK1⟩ := az_inv_inv hgo
      obtain ⟨⟨m1, m2, hreg⟩, hM⟩ := hC _ _ _ _ _ base hcall g5
      have hqz : q ∈ az_Z := List.mem_of_getElem? hq
      obtain ⟨-, -, -, w4, -, -, -, -, -⟩ := az_good q hqz
      obtain ⟨c1, c2, c3, c4, c5, c6, c7⟩ := az_cls _ _ hcl
      obtain ⟨q0, hq0⟩ := az_ws_get (cy := cy) g5 hob (az_ne_ob c7)
      have hm1 := hm _ hK1 hreg
      have hm1a : h'.2.1 - s.heap.size ≤ R.cells := hm1.1
      have hm1b : h'.2.2 - sl0 ≤ R.slots := hm1.2
      have cw : CallW R s args (az_own oc) rr.1 kx q.2.1.1 q.2.1.2.1 q.2.1.2.2.1 q.2.1.2.2.2.1 (az_mw q) (az_rm d h h') (h'.2.1 - h.2.1) (h'.2.2 - h.2.2) b := ⟨az_mkB hts hqz hfr hlo f2 f3, az_word hts (w4 _ f4) rfl, az_word hts (w4 _ f5) rfl⟩
      refine az_callW (va_runV (own := az_own oc) ⟨hx, hb, hml, hown, hts⟩ (hM q hq D cy) cw ⟨az_blind, va_recv hK.1 g2 hcl hq0, fun U hU hW => ⟨rfl, by rw [hU]; exact g4, by rw [hU]; exact g2, az_K.moved hW hK⟩⟩ rfl hal g1.1 rfl (lv_room hcat) hE1 ⟨by omega, by omega⟩) g3 fun H1 locs1 hP1 hz1 hS1 => ?_
      have kk := hk _ hK1 ls H1 locs1 g1 hP1 hS1 hz1 hreg (Nat.le_trans g6 m1) (Nat.le_trans g7 m2)
      have kk : W p l e R s m args below meth c H1 locs1 (h'.2.1 - s.heap.size) (h'.2.2 - sl0) Q (F0 m (pc + 3) ls (v.toList ++ r)) := kk
      rw [show h'.2.1 - s.heap.size = h.2.1 - s.heap.size + (h'.2.1 - h.2.1) by omega, show h'.2.2 - sl0 = h.2.2 - sl0 + (h'.2.2 - h.2.2) by omega] at kk
      exact kk
    · cases hF
  | invokespecial kx =>
    have hE2 := Bool.and_eq_true_iff.mp hE2
    cases of_decide_eq_true hE2.1
    have hF := hE2.2
    unfold az_okS at hF
    obtain ⟨as, a0, r, rfl, hal, hcat, hh⟩ := az_ins1_inv hgo
    rcases hh with ⟨rfl, hK1⟩ | ⟨hj, v, h', hcall, hK1⟩
    · rw [if_pos rfl] at hF
      simp only [Bool.and_eq_true, decide_eq_true_eq] at hF
      obtain ⟨f1, f2⟩ := hF
      rw [f2] at hal
      have e0 := List.eq_nil_of_length_eq_zero hal
      subst e0
      have hl8 := lv_room (m := m) (pc := pc) (ls := ls) (rest := Value.ref a0 :: r) hcat
      have hl9 : 2 * (F0 m pc ls (Value.ref a0 :: r)).monitorRoom + (r.map fun v => v.category).sum + 12 ≤ R.locals := by omega
      refine W.objInit hx hb hown (az_word hts (az_wl_in oc _ f1) rfl) (az_word hts (az_we_in _ (List.mem_of_getElem? (i := 35) rfl)) rfl) (az_word hts (az_we_in _ (List.mem_of_getElem? (i := 36) rfl)) rfl) rfl (by rw [hml]; exact g1.1) rfl hE1 (by omega) hl9 ?_
      exact W.eq (g2 := F0 m (pc + 3) ls r) rfl (hk _ hK1 ls H locs g1 g2 g3 g4 g5 g6 g7)
    · rw [if_neg hj] at hF
      split at hF
      · rename_i q hq
        simp only [Bool.and_eq_true, decide_eq_true_eq] at hF
        obtain ⟨⟨⟨f1, f2⟩, f3⟩, f4⟩ := hF
        unfold az_okL at f1
        simp only [Bool.and_eq_true, Bool.or_eq_true, decide_eq_true_eq] at f1
        obtain ⟨fl, fn⟩ := f1
        obtain ⟨⟨m1, m2, hreg⟩, hM⟩ := hC _ _ _ _ _ base hcall g5
        have hqz : q ∈ az_Z := List.mem_of_getElem? hq
        obtain ⟨-, -, -, w4, -, -, -, -, -⟩ := az_good q hqz
        have hm1 := hm _ hK1 hreg
        have hm1a : h'.2.1 - s.heap.size ≤ R.cells := hm1.1
        have hm1b : h'.2.2 - sl0 ≤ R.slots := hm1.2
        have hp : PreS s H (az_Pc D cy base (.ref a0 :: as) h) (.ref a0 :: as) := ⟨az_blind, fun U hU hW => ⟨rfl, by rw [hU]; exact g4, by rw [hU]; exact g2, az_K.moved hW hK⟩⟩
        have hrun : va_Run p l e R s m args below meth c H locs (h.2.1 - s.heap.size) (h.2.2 - sl0) (h'.2.1 - h.2.1) (h'.2.2 - h.2.2) (F0 m pc ls (as.reverse ++ .ref a0 :: r)) r (az_Qc D cy base v h' (Value.ref a0 :: as).toArray) (fun x => base ≤ x) := by
          rcases fl with fl | fl
          · have cw := az_mkB (R := R) (h := h) (h' := h') hts hqz hfr hlo fl fn
            rw [f4] at cw
            exact va_runI (own := az_own oc) ⟨hx, hb, hml, hown, hts⟩ (hM q hq D cy) ⟨cw, f3, az_word hts (w4 _ f2) rfl⟩ hp rfl hal g1.1 rfl (lv_room hcat) hE1 ⟨by omega, by omega⟩
          · have cw := az_mkN (R := R) (h := h) (h' := h') hts hK hqz hfr hlo fl fn
            rw [f4] at cw
            exact va_runIN (own := az_own oc) ⟨hx, hb, hml, hown, hts⟩ (hM q hq D cy) ⟨cw, f3, az_word hts (w4 _ f2) rfl⟩ hp rfl hal g1.1 rfl (lv_room hcat) hE1 ⟨by omega, by omega⟩
        refine az_callW hrun g3 fun H1 locs1 hP1 hz1 hS1 => ?_
        have kk := hk _ hK1 ls H1 locs1 g1 hP1 hS1 hz1 hreg (Nat.le_trans g6 m1) (Nat.le_trans g7 m2)
        have kk : W p l e R s m args below meth c H1 locs1 (h'.2.1 - s.heap.size) (h'.2.2 - sl0) Q (F0 m (pc + 3) ls (v.toList ++ r)) := kk
        rw [show h'.2.1 - s.heap.size = h.2.1 - s.heap.size + (h'.2.1 - h.2.1) by omega, show h'.2.2 - sl0 = h.2.2 - sl0 + (h'.2.2 - h.2.2) by omega] at kk
        exact kk
      · cases hF
  | invokestatic kx =>
    have hE2 := Bool.and_eq_true_iff.mp hE2
    cases of_decide_eq_true hE2.1
    have hF := hE2.2
    unfold az_okT at hF
    rcases az_sta1_inv hgo with ⟨rfl, hgo⟩ | ⟨rfl, hgo⟩ | ⟨rfl, hgo⟩ | ⟨⟨j1, j2, j3⟩, as, r, rfl, hal, hcat, v, h', hcall, hK1⟩
    · rw [if_pos rfl] at hF
      obtain ⟨x, y, r, rfl, hcat, hK1⟩ := az_mx_inv hgo
      have kk := hk _ hK1 ls H locs g1 g2 g3 g4 g5 g6 g7
      refine va_mmax hx hb (hml.trans g1.1.symm) hown (az_word hts (az_wl_in oc _ (of_decide_eq_true hF)) rfl) (az_word hts (az_we_in _ (List.mem_of_getElem? (i := 27) rfl)) rfl) (az_word hts (az_we_in _ (List.mem_of_getElem? (i := 31) rfl)) rfl) (az_word hts (az_we_in _ (List.mem_of_getElem? (i := 28) rfl)) rfl) (by omega) (by omega) (by
        have := (hm _ hK1 g5).1
        exact this) (by
        have := (hm _ hK1 g5).2
        exact this) hE1 ?_
      simp only [decide_eq_true_eq] at kk
      exact kk
    · rw [if_neg (by decide), if_pos rfl] at hF
      obtain ⟨x, y, r, rfl, hcat, hK1⟩ := az_mx_inv hgo
      have kk := hk _ hK1 ls H locs g1 g2 g3 g4 g5 g6 g7
      refine va_mmin hx hb (hml.trans g1.1.symm) hown (az_word hts (az_wl_in oc _ (of_decide_eq_true hF)) rfl) (az_word hts (az_we_in _ (List.mem_of_getElem? (i := 29) rfl)) rfl) (az_word hts (az_we_in _ (List.mem_of_getElem? (i := 31) rfl)) rfl) (az_word hts (az_we_in _ (List.mem_of_getElem? (i := 30) rfl)) rfl) (by omega) (by omega) (by
        have := (hm _ hK1 g5).1
        exact this) (by
        have := (hm _ hK1 g5).2
        exact this) hE1 ?_
      simp only [decide_eq_true_eq] at kk
      exact kk
    · rw [if_neg (by decide), if_neg (by decide), if_pos rfl] at hF
      obtain ⟨nn, dp, a0, sp, b0, r, n0, f, n1, g, rfl, hb0, ha0, hcat, ⟨i1, i2, i3, i4, i5⟩, hK1⟩ := az_ac_inv hgo
      obtain ⟨q0, hq0⟩ := az_ws_get (cy := cy) g5 hb0 az_ne_ia
      obtain ⟨q1, hq1⟩ := az_ws_get (cy := cy) g5 ha0 az_ne_ia
      have en := az_nat i3
      have es := az_nat i1
      have ed := az_nat i2
      have neg : ∀ z : Int32, 0 ≤ z.toInt → ¬ z < 0 := fun z hz q => by
        have := Int32.lt_iff_toInt_lt.mp q
        simp at this
        omega
      refine va_copyi hx hb (hml.trans g1.1.symm) hown (az_word hts (az_wl_in oc _ (of_decide_eq_true hF)) rfl) (az_word hts (az_we_in _ (List.mem_of_getElem? (i := 34) rfl)) rfl) (az_word hts (az_we_in _ (List.mem_of_getElem? (i := 33) rfl)) rfl) (az_word hts (az_we_in _ (List.mem_of_getElem? (i := 32) rfl)) rfl) hK.1 g2 az_D (az_Srf g3) q0 q1 0 0 hq0 hq1 rfl rfl rfl (neg _ i1) (neg _ i2) (neg _ i3) (by omega) (by omega) (fun _ _ => rfl) (by omega) (by
        have z : nativeFrameWords "java/lang/System" "arraycopy" 5 = 7 := by decide
        rw [z]
        omega) hE1 fun H1 locs1 hP1 _ hS1 => az_after g3 g4 g6 hS1 fun hS2 hz => hk _ hK1 ls H1 locs1 g1 ?_ hS2 hz (az_reg_uh g5 ha0 az_ne_ia) g6 g7
      have z := az_ws_set (c' := az_ia 0 n1 (az_cpy sp.toInt dp.toInt nn.toInt f g)) g5 ha0 az_ne_ia hq1
      rw [← z]
      rw [az_cpyE i1 i2 i3] at hP1
      exact hP1
    · rw [if_neg j1, if_neg j2, if_neg j3] at hF
      split at hF
      · rename_i q hq
        simp only [Bool.and_eq_true, decide_eq_true_eq] at hF
        obtain ⟨f1, f2⟩ := hF
        unfold az_okL at f1
        simp only [Bool.and_eq_true, Bool.or_eq_true, decide_eq_true_eq] at f1
        obtain ⟨fl, fn⟩ := f1
        obtain ⟨⟨m1, m2, hreg⟩, hM⟩ := hC _ _ _ _ _ base hcall g5
        have hqz : q ∈ az_Z := List.mem_of_getElem? hq
        obtain ⟨-, -, -, w4, -, -, -, -, -⟩ := az_good q hqz
        have hm1 := hm _ hK1 hreg
        have hm1a : h'.2.1 - s.heap.size ≤ R.cells := hm1.1
        have hm1b : h'.2.2 - sl0 ≤ R.slots := hm1.2
        have hp : PreS s H (az_Pc D cy base as h) as := ⟨az_blind, fun U hU hW => ⟨rfl, by rw [hU]; exact g4, by rw [hU]; exact g2, az_K.moved hW hK⟩⟩
        have hrun : va_Run p l e R s m args below meth c H locs (h.2.1 - s.heap.size) (h.2.2 - sl0) (h'.2.1 - h.2.1) (h'.2.2 - h.2.2) (F0 m pc ls (as.reverse ++ r)) r (az_Qc D cy base v h' as.toArray) (fun x => base ≤ x) := by
          rcases fl with fl | fl
          · exact va_runS (own := az_own oc) ⟨hx, hb, hml, hown, hts⟩ (hM q hq D cy) ⟨az_mkB hts hqz hfr hlo fl fn, az_word hts (w4 _ f2) rfl⟩ hp rfl hal g1.1 rfl (lv_room hcat) hE1 ⟨by omega, by omega⟩
          · exact va_runSN (own := az_own oc) ⟨hx, hb, hml, hown, hts⟩ (hM q hq D cy) ⟨az_mkN hts hK hqz hfr hlo fl fn, az_word hts (w4 _ f2) rfl, trivial⟩ hp rfl hal g1.1 rfl (lv_room hcat) hE1 ⟨by omega, by omega⟩
        refine az_callW hrun g3 fun H1 locs1 hP1 hz1 hS1 => ?_
        have kk := hk _ hK1 ls H1 locs1 g1 hP1 hS1 hz1 hreg (Nat.le_trans g6 m1) (Nat.le_trans g7 m2)
        have kk : W p l e R s m args below meth c H1 locs1 (h'.2.1 - s.heap.size) (h'.2.2 - sl0) Q (F0 m (pc + 3) ls (v.toList ++ r)) := kk
        rw [show h'.2.1 - s.heap.size = h.2.1 - s.heap.size + (h'.2.1 - h.2.1) by omega, show h'.2.2 - sl0 = h.2.2 - sl0 + (h'.2.2 - h.2.2) by omega] at kk
        exact kk
      · cases hF
  | ireturn =>
    cases of_decide_eq_true hE2
    obtain ⟨v, ty, rfl, hr, hn, hq⟩ := az_reti_inv hgo
    exact (hRet _ _ hq pc ls H locs g2 g3 g4 g5 g6 g7).1 v ty rfl hr hn hE1
  | lreturn =>
    cases of_decide_eq_true hE2
    obtain ⟨v, rfl, hr, hq⟩ := az_retl_inv hgo
    exact (hRet _ _ hq pc ls H locs g2 g3 g4 g5 g6 g7).2.1 v rfl hr hE1
  | areturn =>
    cases of_decide_eq_true hE2
    obtain ⟨v, rfl, hr, hv, hq⟩ := az_reta_inv hgo
    obtain ⟨ty, hr1, hr2⟩ := az_isrt_inv hr
    exact (hRet _ _ hq pc ls H locs g2 g3 g4 g5 g6 g7).2.2.1 v ty rfl hr1 hr2 hv hE1
  | return_ =>
    cases of_decide_eq_true hE2
    obtain ⟨rfl, hr, hq⟩ := az_retv_inv hgo
    exact (hRet _ _ hq pc ls H locs g2 g3 g4 g5 g6 g7).2.2.2 rfl hr hE1
  | _ => exact hgo.elim
end AzO
