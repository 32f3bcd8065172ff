/-! ===== the step rules as rewritings ===== -/
def az_mi (v : Option Value) (K : Int32 → Prop) : Prop := match v with
  | some (.int x) => K x
  | _ => False
def az_ml (v : Option Value) (K : Int64 → Prop) : Prop := match v with
  | some (.long x) => K x
  | _ => False
def az_ma (v : Option Value) (K : Value → Prop) : Prop := match v with
  | some (.ref x) => K (.ref x)
  | some .null => K .null
  | _ => False
theorem az_mi_s (x : Int32) (K : Int32 → Prop) : az_mi (some (.int x)) K = K x := rfl
theorem az_ml_s (x : Int64) (K : Int64 → Prop) : az_ml (some (.long x)) K = K x := rfl
theorem az_ma_r (x : Nat) (K : Value → Prop) : az_ma (some (.ref x)) K = K (.ref x) := rfl
theorem az_ma_n (K : Value → Prop) : az_ma (some .null) K = K .null := rfl
/-- a field read, a field written -/
def az_mf (c : az_C) (ci k : Nat) (K : Value → Prop) : Prop := match az_obf c ci k with
  | some v => K v
  | none => False
def az_mp (c : az_C) (ci k : Nat) (t : Int) (v : Value) (K : az_C → Prop) : Prop := match az_obs c ci k v with
  | some c' => az_fit t v = true ∧ K c'
  | none => False
/-- arrays: a place read, a place written -/
def az_mr (c : az_C) (t : Nat) (i : Int) (K : Int32 → Prop) : Prop := match c with
  | .inl (t0, n, g) => (t0 = t ∧ 0 ≤ i ∧ i < n) ∧ K (g i)
  | _ => False
def az_mw' (c : az_C) (i : Int) (x : Int32) (K : az_C → Prop) : Prop := match c with
  | .inl (t0, n, g) => (t0 = 0 ∧ 0 ≤ i ∧ i < n) ∧ K (az_ia 0 n (az_ui g i x))
  | _ => False
def az_mz (c : az_C) (i : Int) (x : Int32) (K : az_C → Prop) : Prop := match c with
  | .inl (t0, n, g) => ((t0 = 1 ∧ (x = 0 ∨ x = 1)) ∧ 0 ≤ i ∧ i < n) ∧ K (az_ia 1 n (az_ui g i x))
  | _ => False
def az_mrl (c : az_C) (i : Int) (K : Int64 → Prop) : Prop := match c with
  | .inr (.inl (n, g)) => (0 ≤ i ∧ i < n) ∧ K (g i)
  | _ => False
def az_mwl (c : az_C) (i : Int) (x : Int64) (K : az_C → Prop) : Prop := match c with
  | .inr (.inl (n, g)) => (0 ≤ i ∧ i < n) ∧ K (az_la n (az_ui g i x))
  | _ => False
def az_mra (c : az_C) (i : Int) (K : Value → Prop) : Prop := match c with
  | .inr (.inr (.inl (t, n, g))) => (t < 2 ∧ 0 ≤ i ∧ i < n) ∧ K (va_rf (g i))
  | _ => False
def az_mwa (c : az_C) (cv : az_C) (i : Int) (v : Nat) (K : az_C → Prop) : Prop := match c with
  | .inr (.inr (.inl (t, n, g))) => ((t < 2 ∧ az_isob cv (az_rc t) = true) ∧ 0 ≤ i ∧ i < n) ∧ K (az_ra t n (az_ui g i (some v)))
  | _ => False
def az_mn (c : az_C) (K : Int32 → Prop) : Prop := match az_len c with
  | some n => K (Int32.ofNat n)
  | none => False
def az_mc (C : az_Cl) (j : Nat) (as : List Value) (h : az_H) (K : List Value → az_H → Prop) : Prop := ∃ (v : Option Value) (h' : az_H), C j as h v h' ∧ K v.toList h'
section AzCps
variable {C : az_Cl} {Q : Option Value → az_H → Prop} {K : az_S → Prop} {pc : Nat} {lv : az_L} {st : List Value} {h : az_H}
theorem az_go_if {c : Prop} [Decidable c] {r : az_R} : az_go C Q K (if c then r else none) ↔ c ∧ az_go C Q K r := by
  split
  · rename_i hf; exact ⟨fun z => ⟨hf, z⟩, fun z => z.2⟩
  · rename_i hf; exact ⟨fun z => z.elim, fun z => (hf z.1).elim⟩
theorem az_go_ldi {v : Option Value} : az_go C Q K (az_ldi v pc lv st h) ↔ az_mi v (fun x => K (pc, lv, .int x :: st, h)) := by
  rcases v with _ | v
  · exact Iff.rfl
  · cases v <;> exact Iff.rfl
theorem az_go_ldl {v : Option Value} : az_go C Q K (az_ldl v pc lv st h) ↔ az_ml v (fun x => K (pc, lv, .long x :: st, h)) := by
  rcases v with _ | v
  · exact Iff.rfl
  · cases v <;> exact Iff.rfl
theorem az_go_lda {v : Option Value} : az_go C Q K (az_lda v pc lv st h) ↔ az_ma v (fun x => K (pc, lv, x :: st, h)) := by
  rcases v with _ | v
  · exact Iff.rfl
  · cases v <;> exact Iff.rfl
theorem az_go_inc {v : Option Value} {i : Nat} {n : Int} : az_go C Q K (az_inc v i n pc lv st h) ↔ az_mi v (fun x => K (pc, az_s1 lv i (.int (x + Int32.ofInt n)), st, h)) := by
  rcases v with _ | v
  · exact Iff.rfl
  · cases v <;> exact Iff.rfl
theorem az_go_ldv {f : Int64 → Int64 → Int64} {x y : Int64} : az_go C Q K (az_ldv f pc lv (.long y :: .long x :: st) h) ↔ ¬ y = 0 ∧ K (pc, lv, .long (f x y) :: st, h) := by
  unfold az_ldv; dsimp only; split
  · rename_i hy; exact ⟨fun z => z.elim, fun z => (z.1 hy).elim⟩
  · rename_i hy; exact ⟨fun z => ⟨hy, z⟩, fun z => z.2⟩
theorem az_go_br {c : Bool} {t : Nat} : az_go C Q K (az_nx (if c = true then t else pc) lv st h) ↔ (c = true → K (t, lv, st, h)) ∧ (¬ c = true → K (pc, lv, st, h)) := by
  cases c
  · exact ⟨fun z => ⟨fun q => (by cases q), fun _ => z⟩, fun z => z.2 (by decide)⟩
  · exact ⟨fun z => ⟨fun _ => z, fun q => (q rfl).elim⟩, fun z => z.1 rfl⟩
theorem az_go_if1 {p : Int32 → Bool} {P : Prop} {t : Nat} {x : Int32} (hp : p x = true ↔ P) : az_go C Q K (az_if1 p t pc lv (.int x :: st) h) ↔ (P → K (t, lv, st, h)) ∧ (¬ P → K (pc, lv, st, h)) := by
  rw [← hp]; exact az_go_br
theorem az_go_if2 {p : Int32 → Int32 → Bool} {P : Prop} {t : Nat} {x y : Int32} (hp : p x y = true ↔ P) : az_go C Q K (az_if2 p t pc lv (.int y :: .int x :: st) h) ↔ (P → K (t, lv, st, h)) ∧ (¬ P → K (pc, lv, st, h)) := by
  rw [← hp]; exact az_go_br
theorem az_d_eq {P : Prop} [Decidable P] : decide P = true ↔ P := decide_eq_true_iff
theorem az_go_gf {ci k a : Nat} : az_go C Q K (az_gf ci k pc lv (.ref a :: st) h) ↔ az_mf (h.1 a) ci k (fun v => K (pc, lv, v :: st, h)) := by
  unfold az_gf az_mf; dsimp only
  generalize az_obf (h.1 a) ci k = o
  cases o <;> exact Iff.rfl
theorem az_go_pf {ci k a : Nat} {t : Int} {v : Value} : az_go C Q K (az_pf ci k t pc lv (v :: .ref a :: st) h) ↔ az_mp (h.1 a) ci k t v (fun c => K (pc, lv, st, az_uh h a c)) := by
  unfold az_pf az_mp; dsimp only
  generalize az_obs (h.1 a) ci k v = o
  cases o
  · exact Iff.rfl
  · exact az_go_if
theorem az_go_ial {t a : Nat} {i : Int32} : az_go C Q K (az_ial t pc lv (.int i :: .ref a :: st) h (fun _ => none)) ↔ az_mr (h.1 a) t i.toInt (fun x => K (pc, lv, .int x :: st, h)) := by
  unfold az_ial az_mr; dsimp only [Option.getD_none]
  generalize h.1 a = c
  rcases c with ⟨t, n, g⟩ | ⟨n, g⟩ | ⟨t, n, g⟩ | ⟨ci, fs⟩ <;> first | exact az_go_if | exact Iff.rfl
theorem az_go_ias {a : Nat} {i x : Int32} : az_go C Q K (az_ias pc lv (.int x :: .int i :: .ref a :: st) h) ↔ az_mw' (h.1 a) i.toInt x (fun c => K (pc, lv, st, az_uh h a c)) := by
  unfold az_ias az_mw'; dsimp only
  generalize h.1 a = c
  rcases c with ⟨t, n, g⟩ | ⟨n, g⟩ | ⟨t, n, g⟩ | ⟨ci, fs⟩ <;> first | exact az_go_if | exact Iff.rfl
theorem az_go_zas {a : Nat} {i x : Int32} : az_go C Q K (az_zas pc lv (.int x :: .int i :: .ref a :: st) h) ↔ az_mz (h.1 a) i.toInt x (fun c => K (pc, lv, st, az_uh h a c)) := by
  unfold az_zas az_mz; dsimp only
  generalize h.1 a = c
  rcases c with ⟨t, n, g⟩ | ⟨n, g⟩ | ⟨t, n, g⟩ | ⟨ci, fs⟩ <;> first | exact az_go_if | exact Iff.rfl
theorem az_go_lal {a : Nat} {i : Int32} : az_go C Q K (az_lal pc lv (.int i :: .ref a :: st) h) ↔ az_mrl (h.1 a) i.toInt (fun x => K (pc, lv, .long x :: st, h)) := by
  unfold az_lal az_mrl; dsimp only
  generalize h.1 a = c
  rcases c with ⟨t, n, g⟩ | ⟨n, g⟩ | ⟨t, n, g⟩ | ⟨ci, fs⟩ <;> first | exact az_go_if | exact Iff.rfl
theorem az_go_las {a : Nat} {i : Int32} {x : Int64} : az_go C Q K (az_las pc lv (.long x :: .int i :: .ref a :: st) h) ↔ az_mwl (h.1 a) i.toInt x (fun c => K (pc, lv, st, az_uh h a c)) := by
  unfold az_las az_mwl; dsimp only
  generalize h.1 a = c
  rcases c with ⟨t, n, g⟩ | ⟨n, g⟩ | ⟨t, n, g⟩ | ⟨ci, fs⟩ <;> first | exact az_go_if | exact Iff.rfl
theorem az_go_aal {a : Nat} {i : Int32} : az_go C Q K (az_aal pc lv (.int i :: .ref a :: st) h) ↔ az_mra (h.1 a) i.toInt (fun x => K (pc, lv, x :: st, h)) := by
  unfold az_aal az_mra; dsimp only
  generalize h.1 a = c
  rcases c with ⟨t, n, g⟩ | ⟨n, g⟩ | ⟨t, n, g⟩ | ⟨ci, fs⟩ <;> first | exact az_go_if | exact Iff.rfl
theorem az_go_aas {a v : Nat} {i : Int32} : az_go C Q K (az_aas pc lv (.ref v :: .int i :: .ref a :: st) h) ↔ az_mwa (h.1 a) (h.1 v) i.toInt v (fun c => K (pc, lv, st, az_uh h a c)) := by
  unfold az_aas az_mwa; dsimp only
  generalize h.1 a = c
  rcases c with ⟨t, n, g⟩ | ⟨n, g⟩ | ⟨t, n, g⟩ | ⟨ci, fs⟩ <;> first | exact az_go_if | exact Iff.rfl
theorem az_go_aln {a : Nat} : az_go C Q K (az_aln pc lv (.ref a :: st) h (fun _ => none)) ↔ az_mn (h.1 a) (fun x => K (pc, lv, .int x :: st, h)) := by
  unfold az_aln az_mn; dsimp only [Option.getD_none]
  generalize az_len (h.1 a) = o
  cases o <;> exact Iff.rfl
theorem az_go_call {j : Nat} {as : List Value} : az_go C Q K (az_call j as pc lv st h) ↔ az_cat st ≤ 8 ∧ az_mc C j as h (fun v h' => K (pc, lv, v ++ st, h')) := az_go_if
end AzCps
def az_mcp (cb ca : az_C) (sp dp n : Int) (st : List Value) (K : az_C → Prop) : Prop := match cb, ca with
  | .inl (t0, n0, f), .inl (t1, n1, g) => ((t0 = 0 ∧ t1 = 0 ∧ az_cat st ≤ 8) ∧ (0 ≤ sp ∧ 0 ≤ dp ∧ 0 ≤ n ∧ sp + n ≤ n0 ∧ dp + n ≤ n1)) ∧ K (az_ia 0 n1 (az_cpy sp dp n f g))
  | _, _ => False
theorem az_go_ac {C : az_Cl} {Q : Option Value → az_H → Prop} {K : az_S → Prop} {pc : Nat} {lv : az_L} {st : List Value} {h : az_H} {a b : Nat} {n dp sp : Int32} : az_go C Q K (az_ac pc lv (.int n :: .int dp :: .ref a :: .int sp :: .ref b :: st) h) ↔ az_mcp (h.1 b) (h.1 a) sp.toInt dp.toInt n.toInt st (fun c => K (pc, lv, st, az_uh h a c)) := by
  unfold az_ac az_mcp; dsimp only
  generalize h.1 a = c
  generalize h.1 b = d
  rcases c with ⟨t, n, g⟩ | ⟨n, g⟩ | ⟨t, n, g⟩ | ⟨ci, fs⟩ <;> rcases d with ⟨t1, n1, g1⟩ | ⟨n1, g1⟩ | ⟨t1, n1, g1⟩ | ⟨ci1, fs1⟩ <;> first | exact az_go_if | exact Iff.rfl
theorem az_kite {K : az_S → Prop} {lv : az_L} {st : List Value} {h : az_H} {c : Prop} [Decidable c] {a b : Nat} : K (if c then a else b, lv, st, h) ↔ (c → K (a, lv, st, h)) ∧ (¬ c → K (b, lv, st, h)) := by
  split
  · rename_i hc; exact ⟨fun z => ⟨fun _ => z, fun q => (q hc).elim⟩, fun z => z.1 hc⟩
  · rename_i hc; exact ⟨fun z => ⟨fun q => (hc q).elim, fun _ => z⟩, fun z => z.2 hc⟩
def az_swc (K : Nat → Prop) (pc : Nat) (d : Int) : List Int → Int → Int → Prop
  | [], _, _ => K ((pc : Int) + d).toNat
  | o :: os, i, x => (x = i → K ((pc : Int) + o).toNat) ∧ (¬ x = i → az_swc K pc d os (i + 1) x)
theorem az_sel_iff {K : Nat → Prop} {pc : Nat} {d : Int} : ∀ (offs : List Int) (lo x : Int), K (az_sel pc d offs lo x) ↔ az_swc K pc d offs lo x
  | [], _, _ => Iff.rfl
  | o :: os, i, x => by
    show K (if x = i then ((pc : Int) + o).toNat else az_sel pc d os (i + 1) x) ↔ (x = i → K ((pc : Int) + o).toNat) ∧ (¬ x = i → az_swc K pc d os (i + 1) x)
    by_cases h : x = i
    · rw [if_pos h]
      exact ⟨fun z => ⟨fun _ => z, fun q => (q h).elim⟩, fun z => z.1 h⟩
    · rw [if_neg h]
      have ih := az_sel_iff (K := K) (pc := pc) (d := d) os (i + 1) x
      exact ⟨fun z => ⟨fun q => (h q).elim, fun _ => ih.mp z⟩, fun z => ih.mpr (z.2 h)⟩
theorem az_wk_fun {C : az_Cl} {X : Nat → Option az_C} {rt : Option FieldType} {M : Nat → Option az_I} (hC : ∀ (j : Nat) (as : List Value) (h : az_H) (r r1 : Option Value) (h' h1 : az_H), C j as h r h' → C j as h r1 h1 → r = r1 ∧ h' = h1) {r r1 : Option Value} {h' h1 : az_H} : ∀ (k k1 : Nat) (s : az_S), az_wk C X rt M (fun r0 h0 => r0 = r ∧ h0 = h') k s → az_wk C X rt M (fun r0 h0 => r0 = r1 ∧ h0 = h1) k1 s → r = r1 ∧ h' = h1
  | 0, _, _, a, _ => a.elim
  | _ + 1, 0, _, _, b => b.elim
  | k + 1, k1 + 1, s, a, b => by
    have a : az_go C _ (az_wk C X rt M _ k) (az_step X rt (M s.1) s) := a
    have b : az_go C _ (az_wk C X rt M _ k1) (az_step X rt (M s.1) s) := b
    generalize az_step X rt (M s.1) s = q at a b
    rcases q with _ | s' | ⟨v, h0⟩ | ⟨j, as, pc, lv, st, h0⟩
    · exact a.elim
    · exact az_wk_fun hC k k1 s' a b
    · exact ⟨a.1.symm.trans b.1, a.2.symm.trans b.2⟩
    · obtain ⟨v, g, a1, a2⟩ := a
      obtain ⟨w, g1, b1, b2⟩ := b
      obtain ⟨rfl, rfl⟩ := hC _ _ _ _ _ _ _ a1 b1
      exact az_wk_fun hC k k1 _ a2 b2
theorem az_ex_fun {T : List az_row} : ∀ (n j : Nat) (as : List Value) (h : az_H) (r r1 : Option Value) (h' h1 : az_H), az_ex T n j as h r h' → az_ex T n j as h r1 h1 → r = r1 ∧ h' = h1
  | 0, _, _, _, _, _, _, _, a, _ => a.elim
  | n + 1, j, as, h, r, r1, h', h1, a, b => by
    obtain ⟨R, e1, -, k, w⟩ := a
    obtain ⟨R1, e2, -, k1, w1⟩ := b
    cases e1.symm.trans e2
    exact az_wk_fun (az_ex_fun n) k k1 _ w w1
theorem az_mc_eq {T : List az_row} {n j : Nat} {as : List Value} {h h' : az_H} {r : Option Value} {K : List Value → az_H → Prop} (hc : az_ex T n j as h r h') : az_mc (az_ex T n) j as h K = K r.toList h' := by
  refine propext ⟨fun ⟨v, g, a, b⟩ => ?_, fun k => ⟨r, h', hc, k⟩⟩
  obtain ⟨rfl, rfl⟩ := az_ex_fun n j as h _ _ _ _ a hc
  exact b
