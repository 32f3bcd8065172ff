/-! ===== THE SMALL MACHINE IS THE MACHINE: what it comes to, the machine comes to ===== -/
def az_w0 : List Cond := lw_tbl.filter goodWord
theorem az_w0_of {w : Cond} (h : w ∈ lw_tbl) (g : goodWord w = true) : w ∈ az_w0 := List.mem_filter.mpr ⟨h, g⟩
theorem az_w0_good : GoodIn az_w0 az_w0 := fun w h => ⟨h, good_of_word (List.mem_filter.mp h).2⟩
def az_e (cy : Nat → ClassId) (c : az_C) : va_E := match c with
  | .inl (t, n, g) => .inl (cy t, n, .inl (fun j => g (j : Int)))
  | .inr (.inl (n, g)) => .inl (cy 2, n, .inr (.inl (fun j => g (j : Int))))
  | .inr (.inr (.inl (t, n, g))) => .inl (cy (3 + t), n, .inr (.inr (.inr (.inr (fun j => g (j : Int))))))
  | .inr (.inr (.inr o)) => .inr o
def az_tys (cy : Nat → ClassId) : List (ClassId × FieldType) := [(cy 0, .int), (cy 1, .boolean), (cy 2, .long), (cy 3, .object RX0), (cy 4, .object RX8)]
def az_ws (base : Nat) (cy : Nat → ClassId) (h : az_H) : va_W := va_pl (List.range' base (h.2.1 - base)) (fun a => az_e cy (h.1 a))
def az_dd : az_C := az_ob 99 []
def az_reg (base : Nat) (h : az_H) : Prop := base ≤ h.2.1 ∧ ∀ a, ¬ (base ≤ a ∧ a < h.2.1) → h.1 a = az_dd
def az_K (D : va_G) (cy : Nat → ClassId) (U : State) : Prop := va_K D vwCl (az_tys cy) U ∧ va_AO RX0 U ∧ va_AO RX8 U ∧ ∀ w ∈ az_nest, va_Nw w U
def az_has (ls : Array Slot) (nL : Nat) (lv : az_L) : Prop := ls.size = nL ∧ lv_wf ls ∧ ∀ (i : Nat) (v : Value), lv i = some v → ls[i]? = some (.val v)
def az_ll0 (nL : Nat) (lv : az_L) : List (Nat × Value) := (List.range nL).filterMap (fun i => (lv i).map (fun v => (i, v)))
theorem az_ll0_mem {nL : Nat} {lv : az_L} {i : Nat} {v : Value} : (i, v) ∈ az_ll0 nL lv ↔ i < nL ∧ lv i = some v := by
  unfold az_ll0
  rw [List.mem_filterMap]
  constructor
  · intro ⟨j, hj, h⟩
    cases hv : lv j with
    | none => rw [hv] at h; cases h
    | some w =>
      rw [hv] at h
      cases h
      exact ⟨List.mem_range.mp hj, hv⟩
  · intro ⟨h1, h2⟩
    exact ⟨i, List.mem_range.mpr h1, by rw [h2]; rfl⟩
theorem az_has.list {ls : Array Slot} {nL : Nat} {lv : az_L} (h : az_has ls nL lv) : lv_has ls nL (az_ll0 nL lv) := ⟨h.1, h.2.1, fun q hq => h.2.2 q.1 q.2 (az_ll0_mem.mp hq).2⟩
theorem az_has.lt {ls : Array Slot} {nL : Nat} {lv : az_L} (h : az_has ls nL lv) {i : Nat} {v : Value} (hv : lv i = some v) : i < nL := by
  rw [← h.1]
  exact lv_lt (h.2.2 i v hv)
theorem az_nl_inv {v : Option Value} {w : Value} (h : az_nl v = some w) : v = some w ∧ w.category ≠ 2 := by
  unfold az_nl at h
  split at h
  · cases h
  · cases h
  · subst h
    refine ⟨rfl, ?_⟩
    cases w <;> simp_all [Value.category]
theorem az_has.s1 {ls ls' : Array Slot} {nL : Nat} {lv : az_L} {i : Nat} {v : Value} (h : az_has ls nL lv) (h' : lv_has ls' nL ((i, v) :: (az_ll0 nL lv).filter (fun q => !(q.1 == i) && !(q.1 + 1 == i && q.2.category == 2)))) : az_has ls' nL (az_s1 lv i v) := by
  refine ⟨h'.1, h'.2.1, fun j w hj => ?_⟩
  unfold az_s1 at hj
  split at hj
  · rename_i e
    cases hj
    rw [e]
    exact h'.2.2 (i, v) List.mem_cons_self
  · rename_i hne
    split at hj
    · rename_i e
      obtain ⟨q1, q2⟩ := az_nl_inv hj
      exact h'.2.2 (j, w) (List.mem_cons_of_mem _ (List.mem_filter.mpr ⟨az_ll0_mem.mpr ⟨h.lt q1, q1⟩, by simp [hne, q2]⟩))
    · rename_i e
      exact h'.2.2 (j, w) (List.mem_cons_of_mem _ (List.mem_filter.mpr ⟨az_ll0_mem.mpr ⟨h.lt hj, hj⟩, by simp [hne, e]⟩))
theorem az_has.s2 {ls ls' : Array Slot} {nL : Nat} {lv : az_L} {i : Nat} {v : Value} (h : az_has ls nL lv) (h' : lv_has ls' nL ((i, v) :: (az_ll0 nL lv).filter (fun q => !(q.1 == i) && (!(q.1 == i + 1) && !(q.1 + 1 == i && q.2.category == 2))))) : az_has ls' nL (az_s2 lv i v) := by
  refine ⟨h'.1, h'.2.1, fun j w hj => ?_⟩
  unfold az_s2 at hj
  split at hj
  · rename_i e
    cases hj
    rw [e]
    exact h'.2.2 (i, v) List.mem_cons_self
  · rename_i hne
    split at hj
    · cases hj
    · rename_i hn1
      split at hj
      · rename_i e
        obtain ⟨q1, q2⟩ := az_nl_inv hj
        exact h'.2.2 (j, w) (List.mem_cons_of_mem _ (List.mem_filter.mpr ⟨az_ll0_mem.mpr ⟨h.lt q1, q1⟩, by simp [hne, hn1, q2]⟩))
      · rename_i e
        exact h'.2.2 (j, w) (List.mem_cons_of_mem _ (List.mem_filter.mpr ⟨az_ll0_mem.mpr ⟨h.lt hj, hj⟩, by simp [hne, hn1, e]⟩))
theorem az_arg_inv : ∀ (vs : List Value) (k j : Nat) (w : Value), az_arg k vs j = some w → (j, w) ∈ lv_args k vs
  | [], _, _, _, h => by cases h
  | v :: vs, k, j, w, h => by
    unfold az_arg at h
    unfold lv_args
    split at h
    · rename_i e
      cases h
      rw [e]
      exact List.mem_cons_self
    · exact List.mem_cons_of_mem _ (az_arg_inv vs _ j w h)
theorem az_ws_in {base : Nat} {h : az_H} {a : Nat} {c : az_C} (hr : az_reg base h) (hc : h.1 a = c) (hd : c ≠ az_dd) : base ≤ a ∧ a < h.2.1 := Classical.byContradiction fun q => hd (hc.symm.trans (hr.2 a q))
theorem az_ws_get {base : Nat} {cy : Nat → ClassId} {h : az_H} {a : Nat} {c : az_C} (hr : az_reg base h) (hc : h.1 a = c) (hd : c ≠ az_dd) : ∃ k : Nat, (az_ws base cy h)[k]? = some (a, az_e cy c) := by
  have hin := az_ws_in hr hc hd
  obtain ⟨k, hk⟩ := va_pl_get (X := []) (f := fun a => az_e cy (h.1 a)) (show a ∈ List.range' base (h.2.1 - base) by rw [List.mem_range'_1]; omega)
  refine ⟨k, ?_⟩
  rw [← hc]
  exact hk
theorem az_D {base : Nat} {cy : Nat → ClassId} {h : az_H} : va_D (fun q => base ≤ q) (az_ws base cy h) := by
  have key : ∀ (i : Nat) (p : Nat × va_E), (az_ws base cy h)[i]? = some p → p.1 = base + i := by
    intro i p hp
    unfold az_ws va_pl at hp
    rw [List.getElem?_map] at hp
    cases hi : (List.range' base (h.2.1 - base))[i]? with
    | none => rw [hi] at hp; cases hp
    | some x =>
      rw [hi] at hp
      cases hp
      obtain ⟨hlt, hx⟩ := List.getElem?_eq_some_iff.mp hi
      rw [← hx]
      simp
  refine ⟨fun i j p q hi hj hpq => ?_, fun k q hk => ?_⟩
  · have h1 := key i p hi
    have h2 := key j q hj
    omega
  · have h1 := key k q hk
    show base ≤ q.1
    omega
theorem az_ws_set {base : Nat} {cy : Nat → ClassId} {h : az_H} {a k : Nat} {c c' : az_C} (hr : az_reg base h) (hc : h.1 a = c) (hd : c ≠ az_dd) (hk : (az_ws base cy h)[k]? = some (a, az_e cy c)) : (az_ws base cy h).set k (a, az_e cy c') = az_ws base cy (az_uh h a c') := by
  have hin := az_ws_in hr hc hd
  have h1 := va_pl_set (X := []) (e := az_e cy c') (az_D (base := base) (cy := cy) (h := h)) (show a ∈ List.range' base (h.2.1 - base) by rw [List.mem_range'_1]; omega) (by rw [hc]; exact hk)
  refine Eq.trans h1 (va_pl_congr fun b => ?_)
  unfold az_uh va_up
  dsimp only
  split <;> rfl
theorem az_reg_uh {base : Nat} {h : az_H} {a : Nat} {c c' : az_C} (hr : az_reg base h) (hc : h.1 a = c) (hd : c ≠ az_dd) : az_reg base (az_uh h a c') := by
  have hin := az_ws_in hr hc hd
  refine ⟨hr.1, fun b hb => ?_⟩
  have hne : b ≠ a := fun e => hb (e ▸ hin)
  show va_up h.1 a c' b = az_dd
  unfold va_up
  rw [if_neg hne]
  exact hr.2 b hb
theorem az_ws_push {base : Nat} {cy : Nat → ClassId} {h : az_H} {c : az_C} {n : Nat} (hr : az_reg base h) : az_ws base cy h ++ [(h.2.1, az_e cy c)] = az_ws base cy (az_nw h c n) := by
  have hb := hr.1
  unfold az_ws az_nw
  rw [va_pl_push (by rw [List.mem_range'_1]; omega)]
  dsimp only
  rw [show h.2.1 + 1 - base = (h.2.1 - base) + 1 by omega, List.range'_1_concat, show base + (h.2.1 - base) = h.2.1 by omega]
  refine va_pl_congr fun b => ?_
  unfold va_up
  dsimp only
  split <;> rfl
theorem az_reg_nw {base : Nat} {h : az_H} {c : az_C} {n : Nat} (hr : az_reg base h) : az_reg base (az_nw h c n) := by
  refine ⟨Nat.le_succ_of_le hr.1, fun b hb => ?_⟩
  have hb : ¬ (base ≤ b ∧ b < h.2.1 + 1) := hb
  have hr1 := hr.1
  show va_up h.1 h.2.1 c b = az_dd
  unfold va_up
  rw [if_neg (by omega)]
  exact hr.2 b (by omega)
theorem az_nat {i : Int32} (h : 0 ≤ i.toInt) : ((i.toNatClampNeg : Nat) : Int) = i.toInt := by
  show ((i.toInt.toNat : Nat) : Int) = i.toInt
  omega
theorem az_pin {i : Int32} {n : Nat} (h : 0 ≤ i.toInt) (h2 : i.toInt < n) : vp_in i n := vp_in_iff.mpr ⟨h, h2⟩
theorem az_upd {g : Int → Int32} {i : Int32} {x : Int32} (h : 0 ≤ i.toInt) : upd (fun j : Nat => g (j : Int)) i.toNatClampNeg x = fun j : Nat => az_ui g i.toInt x (j : Int) := by
  funext j
  have := az_nat h
  unfold upd az_ui
  by_cases q : j = i.toNatClampNeg
  · rw [if_pos q, if_pos (by omega)]
  · rw [if_neg q, if_neg (by omega)]
theorem az_updL {g : Int → Int64} {i : Int32} {x : Int64} (h : 0 ≤ i.toInt) : vp_updL (fun j : Nat => g (j : Int)) i.toNatClampNeg x = fun j : Nat => az_ui g i.toInt x (j : Int) := by
  funext j
  have := az_nat h
  unfold vp_updL az_ui
  by_cases q : j = i.toNatClampNeg
  · rw [if_pos q, if_pos (by omega)]
  · rw [if_neg q, if_neg (by omega)]
theorem az_upR {g : Int → Option Nat} {i : Int32} {x : Option Nat} (h : 0 ≤ i.toInt) : va_up (fun j : Nat => g (j : Int)) i.toNatClampNeg x = fun j : Nat => az_ui g i.toInt x (j : Int) := by
  funext j
  have := az_nat h
  unfold va_up az_ui
  by_cases q : j = i.toNatClampNeg
  · rw [if_pos q, if_pos (by omega)]
  · rw [if_neg q, if_neg (by omega)]
theorem az_cpyE {f g : Int → Int32} {sp dp n : Int32} (h1 : 0 ≤ sp.toInt) (h2 : 0 ≤ dp.toInt) (h3 : 0 ≤ n.toInt) : va_cpy (fun j : Nat => f (j : Int)) (fun j : Nat => g (j : Int)) sp.toNatClampNeg dp.toNatClampNeg n.toNatClampNeg = fun j : Nat => az_cpy sp.toInt dp.toInt n.toInt f g (j : Int) := by
  funext k
  have e1 := az_nat h1
  have e2 := az_nat h2
  have e3 := az_nat h3
  unfold va_cpy az_cpy
  by_cases q : dp.toNatClampNeg ≤ k ∧ k < dp.toNatClampNeg + n.toNatClampNeg
  · rw [if_pos q, if_pos (by omega)]
    have z : ((sp.toNatClampNeg + (k - dp.toNatClampNeg) : Nat) : Int) = sp.toInt + ((k : Int) - dp.toInt) := by omega
    exact congrArg f z
  · rw [if_neg q, if_neg (by omega)]
/-- what is known of a class of the table -/
theorem az_cls (ci : Nat) (r : vw_C) (hc : vwCl[ci]? = some r) : (∀ w ∈ u_ws r.1 r.2.1 r.2.2, w ∈ az_w0) ∧ (∃ ty0 : Nat → FieldType, (∀ k, k < r.2.2 → parseFieldDescriptor (r.2.1 k).2.2.1 = some (ty0 k)) ∧ (∀ j, j < r.2.2 → defaultValue (ty0 j) = vp_V (az_z ci) j)) ∧ (∀ a, a < r.2.2 → ∀ b, b < r.2.2 → a ≠ b → (r.2.1 a).2.1 ≠ (r.2.1 b).2.1) ∧ Cond.instantiable r.1 r.2.2 ∈ az_w0 ∧ Cond.initialized r.1 ∈ az_w0 ∧ (az_z ci).length = r.2.2 ∧ ci < 12 := by
  have hu : ∀ (C : String) (T : u_T) (N : Nat), (∀ w ∈ u_ws C T N, w ∈ lw_tbl) → ∀ w ∈ u_ws C T N, w ∈ az_w0 := by
    intro C T N h w hw
    refine az_w0_of (h w hw) ?_
    obtain ⟨k, -, rfl⟩ := List.mem_map.mp hw
    unfold u_lay
    split <;> rfl
  match ci, hc with
  | 0, hc => cases hc; exact ⟨hu _ _ _ az_u0, ⟨tyX0, tyX0_ok, by decide +kernel⟩, nmX0, az_w0_of (az_we_in _ (List.mem_of_getElem? (i := 0) rfl)) rfl, az_w0_of (az_we_in _ (List.mem_of_getElem? (i := 1) rfl)) rfl, rfl, by decide⟩
  | 1, hc => cases hc; exact ⟨hu _ _ _ az_u1, ⟨tyX1, tyX1_ok, by decide +kernel⟩, nmX1, az_w0_of (az_we_in _ (List.mem_of_getElem? (i := 2) rfl)) rfl, az_w0_of (az_we_in _ (List.mem_of_getElem? (i := 3) rfl)) rfl, rfl, by decide⟩
  | 2, hc => cases hc; exact ⟨hu _ _ _ az_u2, ⟨tyX2, tyX2_ok, by decide +kernel⟩, nmX2, az_w0_of (az_we_in _ (List.mem_of_getElem? (i := 4) rfl)) rfl, az_w0_of (az_we_in _ (List.mem_of_getElem? (i := 5) rfl)) rfl, rfl, by decide⟩
  | 3, hc => cases hc; exact ⟨hu _ _ _ az_u3, ⟨tyX3, tyX3_ok, by decide +kernel⟩, nmX3, az_w0_of (az_we_in _ (List.mem_of_getElem? (i := 6) rfl)) rfl, az_w0_of (az_we_in _ (List.mem_of_getElem? (i := 7) rfl)) rfl, rfl, by decide⟩
  | 4, hc => cases hc; exact ⟨hu _ _ _ az_u4, ⟨tyX4, tyX4_ok, by decide +kernel⟩, nmX4, az_w0_of (az_we_in _ (List.mem_of_getElem? (i := 8) rfl)) rfl, az_w0_of (az_we_in _ (List.mem_of_getElem? (i := 9) rfl)) rfl, rfl, by decide⟩
  | 5, hc => cases hc; exact ⟨hu _ _ _ az_u5, ⟨tyX5, tyX5_ok, by decide +kernel⟩, nmX5, az_w0_of (az_we_in _ (List.mem_of_getElem? (i := 10) rfl)) rfl, az_w0_of (az_we_in _ (List.mem_of_getElem? (i := 11) rfl)) rfl, rfl, by decide⟩
  | 6, hc => cases hc; exact ⟨hu _ _ _ az_u6, ⟨tyX6, tyX6_ok, by decide +kernel⟩, nmX6, az_w0_of (az_we_in _ (List.mem_of_getElem? (i := 12) rfl)) rfl, az_w0_of (az_we_in _ (List.mem_of_getElem? (i := 13) rfl)) rfl, rfl, by decide⟩
  | 7, hc => cases hc; exact ⟨hu _ _ _ az_u7, ⟨tyX7, tyX7_ok, by decide +kernel⟩, nmX7, az_w0_of (az_we_in _ (List.mem_of_getElem? (i := 14) rfl)) rfl, az_w0_of (az_we_in _ (List.mem_of_getElem? (i := 15) rfl)) rfl, rfl, by decide⟩
  | 8, hc => cases hc; exact ⟨hu _ _ _ az_u8, ⟨tyX8, tyX8_ok, by decide +kernel⟩, nmX8, az_w0_of (az_we_in _ (List.mem_of_getElem? (i := 16) rfl)) rfl, az_w0_of (az_we_in _ (List.mem_of_getElem? (i := 17) rfl)) rfl, rfl, by decide⟩
  | 9, hc => cases hc; exact ⟨hu _ _ _ az_u9, ⟨tyX9, tyX9_ok, by decide +kernel⟩, nmX9, az_w0_of (az_we_in _ (List.mem_of_getElem? (i := 18) rfl)) rfl, az_w0_of (az_we_in _ (List.mem_of_getElem? (i := 19) rfl)) rfl, rfl, by decide⟩
  | 10, hc => cases hc; exact ⟨hu _ _ _ az_u10, ⟨tyX10, tyX10_ok, by decide +kernel⟩, nmX10, az_w0_of (az_we_in _ (List.mem_of_getElem? (i := 20) rfl)) rfl, az_w0_of (az_we_in _ (List.mem_of_getElem? (i := 21) rfl)) rfl, rfl, by decide⟩
  | 11, hc => cases hc; exact ⟨hu _ _ _ az_u11, ⟨tyX11, tyX11_ok, by decide +kernel⟩, nmX11, az_w0_of (az_we_in _ (List.mem_of_getElem? (i := 22) rfl)) rfl, az_w0_of (az_we_in _ (List.mem_of_getElem? (i := 23) rfl)) rfl, rfl, by decide⟩
  | k + 12, hc => simp [vwCl] at hc
