/-! ===== what a step that goes on was ===== -/
section AzInv
variable {C : az_Cl} {Qa : Option Value → az_H → Prop} {K : az_S → Prop} {pc : Nat} {lv : az_L} {st : List Value} {h : az_H}
theorem az_ldi_inv {v : Option Value} (hg : az_go C Qa K (az_ldi v pc lv st h)) : ∃ x, v = some (.int x) ∧ K (pc, lv, .int x :: st, h) := by
  unfold az_ldi at hg; split at hg
  · exact ⟨_, rfl, hg⟩
  · exact hg.elim
theorem az_ldl_inv {v : Option Value} (hg : az_go C Qa K (az_ldl v pc lv st h)) : ∃ x, v = some (.long x) ∧ K (pc, lv, .long x :: st, h) := by
  unfold az_ldl at hg; split at hg
  · exact ⟨_, rfl, hg⟩
  · exact hg.elim
theorem az_lda_inv {v : Option Value} (hg : az_go C Qa K (az_lda v pc lv st h)) : (∃ x, v = some (.ref x) ∧ K (pc, lv, .ref x :: st, h)) ∨ (v = some .null ∧ K (pc, lv, .null :: st, h)) := by
  unfold az_lda at hg; split at hg
  · exact Or.inl ⟨_, rfl, hg⟩
  · exact Or.inr ⟨rfl, hg⟩
  · exact hg.elim
theorem az_sti_inv {i : Nat} (hg : az_go C Qa K (az_sti i pc lv st h)) : ∃ x r, st = .int x :: r ∧ K (pc, az_s1 lv i (.int x), r, h) := by
  unfold az_sti at hg; split at hg
  · exact ⟨_, _, rfl, hg⟩
  · exact hg.elim
theorem az_stl_inv {i : Nat} (hg : az_go C Qa K (az_stl i pc lv st h)) : ∃ x r, st = .long x :: r ∧ K (pc, az_s2 lv i (.long x), r, h) := by
  unfold az_stl at hg; split at hg
  · exact ⟨_, _, rfl, hg⟩
  · exact hg.elim
theorem az_sta_inv {i : Nat} (hg : az_go C Qa K (az_sta i pc lv st h)) : (∃ x r, st = .ref x :: r ∧ K (pc, az_s1 lv i (.ref x), r, h)) ∨ (∃ r, st = .null :: r ∧ K (pc, az_s1 lv i .null, r, h)) := by
  unfold az_sta at hg; split at hg
  · exact Or.inl ⟨_, _, rfl, hg⟩
  · exact Or.inr ⟨_, rfl, hg⟩
  · exact hg.elim
theorem az_inc_inv {v : Option Value} {i : Nat} {n : Int} (hg : az_go C Qa K (az_inc v i n pc lv st h)) : ∃ x, v = some (.int x) ∧ K (pc, az_s1 lv i (.int (x + Int32.ofInt n)), st, h) := by
  unfold az_inc at hg; split at hg
  · exact ⟨_, rfl, hg⟩
  · exact hg.elim
theorem az_ii_inv {f : Int32 → Int32 → Int32} (hg : az_go C Qa K (az_ii f pc lv st h)) : ∃ x y r, st = .int y :: .int x :: r ∧ K (pc, lv, .int (f x y) :: r, h) := by
  unfold az_ii at hg; split at hg
  · exact ⟨_, _, _, rfl, hg⟩
  · exact hg.elim
theorem az_ll_inv {f : Int64 → Int64 → Int64} (hg : az_go C Qa K (az_ll f pc lv st h)) : ∃ x y r, st = .long y :: .long x :: r ∧ K (pc, lv, .long (f x y) :: r, h) := by
  unfold az_ll at hg; split at hg
  · exact ⟨_, _, _, rfl, hg⟩
  · exact hg.elim
theorem az_ldv_inv {f : Int64 → Int64 → Int64} (hg : az_go C Qa K (az_ldv f pc lv st h)) : ∃ x y r, st = .long y :: .long x :: r ∧ ¬ y = 0 ∧ K (pc, lv, .long (f x y) :: r, h) := by
  unfold az_ldv at hg; split at hg
  · split at hg
    · exact hg.elim
    · rename_i hy
      exact ⟨_, _, _, rfl, hy, hg⟩
  · exact hg.elim
theorem az_cmp_inv (hg : az_go C Qa K (az_cmp pc lv st h)) : ∃ x y r, st = .long y :: .long x :: r ∧ K (pc, lv, .int (lg_cmp x y) :: r, h) := by
  unfold az_cmp at hg; split at hg
  · exact ⟨_, _, _, rfl, hg⟩
  · exact hg.elim
theorem az_il_inv (hg : az_go C Qa K (az_il pc lv st h)) : ∃ x r, st = .int x :: r ∧ K (pc, lv, .long x.toInt64 :: r, h) := by
  unfold az_il at hg; split at hg
  · exact ⟨_, _, rfl, hg⟩
  · exact hg.elim
theorem az_li_inv (hg : az_go C Qa K (az_li pc lv st h)) : ∃ x r, st = .long x :: r ∧ K (pc, lv, .int x.toInt32 :: r, h) := by
  unfold az_li at hg; split at hg
  · exact ⟨_, _, rfl, hg⟩
  · exact hg.elim
theorem az_dup_inv (hg : az_go C Qa K (az_dup pc lv st h)) : ∃ v r, st = v :: r ∧ v.category = 1 ∧ K (pc, lv, v :: v :: r, h) := by
  unfold az_dup at hg; split at hg
  · exact ⟨_, _, rfl, rfl, hg⟩
  · exact ⟨_, _, rfl, rfl, hg⟩
  · exact hg.elim
theorem az_dup2_inv (hg : az_go C Qa K (az_dup2 pc lv st h)) : (∃ v w r, st = v :: w :: r ∧ v.category = 1 ∧ w.category = 1 ∧ K (pc, lv, v :: w :: v :: w :: r, h)) ∨ (∃ v r, st = v :: r ∧ v.category = 2 ∧ K (pc, lv, v :: v :: r, h)) := by
  unfold az_dup2 at hg; split at hg
  · exact Or.inl ⟨_, _, _, rfl, rfl, rfl, hg⟩
  · exact Or.inr ⟨_, _, rfl, rfl, hg⟩
  · exact hg.elim
theorem az_if1_inv {p : Int32 → Bool} {t : Nat} (hg : az_go C Qa K (az_if1 p t pc lv st h)) : ∃ x r, st = .int x :: r ∧ K (if p x then t else pc, lv, r, h) := by
  unfold az_if1 at hg; split at hg
  · exact ⟨_, _, rfl, hg⟩
  · exact hg.elim
theorem az_if2_inv {p : Int32 → Int32 → Bool} {t : Nat} (hg : az_go C Qa K (az_if2 p t pc lv st h)) : ∃ x y r, st = .int y :: .int x :: r ∧ K (if p x y then t else pc, lv, r, h) := by
  unfold az_if2 at hg; split at hg
  · exact ⟨_, _, _, rfl, hg⟩
  · exact hg.elim
theorem az_nul_inv {t : Nat} (hg : az_go C Qa K (az_nul t pc lv st h)) : (∃ r, st = .null :: r ∧ K (t, lv, r, h)) ∨ (∃ x r, st = .ref x :: r ∧ K (pc, lv, r, h)) := by
  unfold az_nul at hg; split at hg
  · exact Or.inl ⟨_, rfl, hg⟩
  · exact Or.inr ⟨_, _, rfl, hg⟩
  · exact hg.elim
theorem az_swi_inv {d lo : Int} {offs : List Int} (hg : az_go C Qa K (az_swi d lo offs pc lv st h)) : ∃ x r, st = .int x :: r ∧ K (az_sel pc d offs lo x.toInt, lv, r, h) := by
  unfold az_swi at hg; split at hg
  · exact ⟨_, _, rfl, hg⟩
  · exact hg.elim
theorem az_obf_inv {c : az_C} {ci k : Nat} {v : Value} (hg : az_obf c ci k = some v) : ∃ fs, c = az_ob ci fs ∧ fs[k]? = some v := by
  unfold az_obf at hg; split at hg
  · split at hg
    · rename_i hc
      exact ⟨_, by rw [hc], hg⟩
    · cases hg
  · cases hg
theorem az_gf_inv {ci k : Nat} (hg : az_go C Qa K (az_gf ci k pc lv st h)) : ∃ a r fs v, st = .ref a :: r ∧ h.1 a = az_ob ci fs ∧ fs[k]? = some v ∧ K (pc, lv, v :: r, h) := by
  unfold az_gf at hg; split at hg
  · split at hg
    · rename_i hv
      obtain ⟨fs, h1, h2⟩ := az_obf_inv hv
      exact ⟨_, _, fs, _, rfl, h1, h2, hg⟩
    · exact hg.elim
  · exact hg.elim
theorem az_obs_inv {c c' : az_C} {ci k : Nat} {v : Value} (hg : az_obs c ci k v = some c') : ∃ fs, c = az_ob ci fs ∧ k < fs.length ∧ c' = az_ob ci (fs.set k v) := by
  unfold az_obs at hg; split at hg
  · split at hg
    · rename_i hc
      exact ⟨_, by rw [hc.1], hc.2, (Option.some.inj hg).symm⟩
    · cases hg
  · cases hg
theorem az_pf_inv {ci k : Nat} {t : Int} (hg : az_go C Qa K (az_pf ci k t pc lv st h)) : ∃ v a r fs, st = v :: .ref a :: r ∧ h.1 a = az_ob ci fs ∧ k < fs.length ∧ az_fit t v = true ∧ K (pc, lv, r, az_uh h a (az_ob ci (fs.set k v))) := by
  unfold az_pf at hg; split at hg
  · split at hg
    · rename_i hv
      obtain ⟨fs, h1, h2, h3⟩ := az_obs_inv hv
      split at hg
      · rename_i hf
        exact ⟨_, _, _, fs, rfl, h1, h2, hf, by rw [← h3]; exact hg⟩
      · exact hg.elim
    · exact hg.elim
  · exact hg.elim
theorem az_ial_inv {t : Nat} {X : Nat → Option az_C} (hg : az_go C Qa K (az_ial t pc lv st h X)) : ∃ i a r n g, st = .int i :: .ref a :: r ∧ (X a).getD (h.1 a) = az_ia t n g ∧ 0 ≤ i.toInt ∧ i.toInt < n ∧ K (pc, lv, .int (g i.toInt) :: r, h) := by
  unfold az_ial at hg; split at hg
  · split at hg
    · rename_i hc
      split at hg
      · rename_i hi
        obtain ⟨rfl, hi⟩ := hi
        exact ⟨_, _, _, _, _, rfl, hc, hi.1, hi.2, hg⟩
      · exact hg.elim
    · exact hg.elim
  · exact hg.elim
theorem az_ias_inv (hg : az_go C Qa K (az_ias pc lv st h)) : ∃ x i a r n g, st = .int x :: .int i :: .ref a :: r ∧ h.1 a = az_ia 0 n g ∧ 0 ≤ i.toInt ∧ i.toInt < n ∧ K (pc, lv, r, az_uh h a (az_ia 0 n (az_ui g i.toInt x))) := by
  unfold az_ias at hg; split at hg
  · split at hg
    · rename_i hc
      split at hg
      · rename_i hi
        obtain ⟨rfl, hi⟩ := hi
        exact ⟨_, _, _, _, _, _, rfl, hc, hi.1, hi.2, hg⟩
      · exact hg.elim
    · exact hg.elim
  · exact hg.elim
theorem az_zas_inv (hg : az_go C Qa K (az_zas pc lv st h)) : ∃ x i a r n g, st = .int x :: .int i :: .ref a :: r ∧ h.1 a = az_ia 1 n g ∧ (x = 0 ∨ x = 1) ∧ 0 ≤ i.toInt ∧ i.toInt < n ∧ K (pc, lv, r, az_uh h a (az_ia 1 n (az_ui g i.toInt x))) := by
  unfold az_zas at hg; split at hg
  · split at hg
    · rename_i hc
      split at hg
      · rename_i hi
        obtain ⟨⟨rfl, hx⟩, hi⟩ := hi
        exact ⟨_, _, _, _, _, _, rfl, hc, hx, hi.1, hi.2, hg⟩
      · exact hg.elim
    · exact hg.elim
  · exact hg.elim
theorem az_lal_inv (hg : az_go C Qa K (az_lal pc lv st h)) : ∃ i a r n g, st = .int i :: .ref a :: r ∧ h.1 a = az_la n g ∧ 0 ≤ i.toInt ∧ i.toInt < n ∧ K (pc, lv, .long (g i.toInt) :: r, h) := by
  unfold az_lal at hg; split at hg
  · split at hg
    · rename_i hc
      split at hg
      · rename_i hi
        exact ⟨_, _, _, _, _, rfl, hc, hi.1, hi.2, hg⟩
      · exact hg.elim
    · exact hg.elim
  · exact hg.elim
theorem az_las_inv (hg : az_go C Qa K (az_las pc lv st h)) : ∃ x i a r n g, st = .long x :: .int i :: .ref a :: r ∧ h.1 a = az_la n g ∧ 0 ≤ i.toInt ∧ i.toInt < n ∧ K (pc, lv, r, az_uh h a (az_la n (az_ui g i.toInt x))) := by
  unfold az_las at hg; split at hg
  · split at hg
    · rename_i hc
      split at hg
      · rename_i hi
        exact ⟨_, _, _, _, _, _, rfl, hc, hi.1, hi.2, hg⟩
      · exact hg.elim
    · exact hg.elim
  · exact hg.elim
theorem az_aal_inv (hg : az_go C Qa K (az_aal pc lv st h)) : ∃ i a r t n g, st = .int i :: .ref a :: r ∧ h.1 a = az_ra t n g ∧ t < 2 ∧ 0 ≤ i.toInt ∧ i.toInt < n ∧ K (pc, lv, va_rf (g i.toInt) :: r, h) := by
  unfold az_aal at hg; split at hg
  · split at hg
    · rename_i hc
      split at hg
      · rename_i hi
        exact ⟨_, _, _, _, _, _, rfl, hc, hi.1, hi.2.1, hi.2.2, hg⟩
      · exact hg.elim
    · exact hg.elim
  · exact hg.elim
theorem az_isob_inv {c : az_C} {ci : Nat} (hg : az_isob c ci = true) : ∃ fs, c = az_ob ci fs := by
  unfold az_isob at hg; split at hg
  · exact ⟨_, by rw [of_decide_eq_true hg]⟩
  · cases hg
theorem az_aas_inv (hg : az_go C Qa K (az_aas pc lv st h)) : ∃ v i a r t n g fs, st = .ref v :: .int i :: .ref a :: r ∧ h.1 a = az_ra t n g ∧ h.1 v = az_ob (az_rc t) fs ∧ t < 2 ∧ 0 ≤ i.toInt ∧ i.toInt < n ∧ K (pc, lv, r, az_uh h a (az_ra t n (az_ui g i.toInt (some v)))) := by
  unfold az_aas at hg; split at hg
  · split at hg
    · rename_i hc
      split at hg
      · rename_i hi
        obtain ⟨fs, hf⟩ := az_isob_inv hi.1.2
        exact ⟨_, _, _, _, _, _, _, fs, rfl, hc, hf, hi.1.1, hi.2.1, hi.2.2, hg⟩
      · exact hg.elim
    · exact hg.elim
  · exact hg.elim
theorem az_aln_inv {X : Nat → Option az_C} (hg : az_go C Qa K (az_aln pc lv st h X)) : ∃ a r n, st = .ref a :: r ∧ az_len ((X a).getD (h.1 a)) = some n ∧ K (pc, lv, .int (Int32.ofNat n) :: r, h) := by
  unfold az_aln at hg; split at hg
  · split at hg
    · rename_i hc
      exact ⟨_, _, _, rfl, hc, hg⟩
    · exact hg.elim
  · exact hg.elim
theorem az_newr_inv {t : Nat} (hg : az_go C Qa K (az_newr t pc lv st h)) : ∃ n r, st = .int n :: r ∧ 0 ≤ n.toInt ∧ n.toInt ≤ 65536 ∧ K (pc, lv, .ref h.2.1 :: r, az_nw h (az_ra t n.toInt.toNat (fun _ => none)) n.toInt.toNat) := by
  unfold az_newr at hg; split at hg
  · split at hg
    · rename_i hi
      exact ⟨_, _, rfl, hi.1, hi.2, hg⟩
    · exact hg.elim
  · exact hg.elim
theorem az_newa_inv {t : ArrayType} (hg : az_go C Qa K (az_newa t pc lv st h)) : ∃ n r, st = .int n :: r ∧ 0 ≤ n.toInt ∧ n.toInt ≤ 65536 ∧ ((t = .int ∧ K (pc, lv, .ref h.2.1 :: r, az_nw h (az_ia 0 n.toInt.toNat (fun _ => 0)) n.toInt.toNat)) ∨ (t = .boolean ∧ K (pc, lv, .ref h.2.1 :: r, az_nw h (az_ia 1 n.toInt.toNat (fun _ => 0)) n.toInt.toNat)) ∨ (t = .long ∧ K (pc, lv, .ref h.2.1 :: r, az_nw h (az_la n.toInt.toNat (fun _ => 0)) n.toInt.toNat))) := by
  unfold az_newa at hg; split at hg
  · split at hg
    · rename_i hi
      split at hg
      · exact ⟨_, _, rfl, hi.1, hi.2, Or.inl ⟨rfl, hg⟩⟩
      · exact ⟨_, _, rfl, hi.1, hi.2, Or.inr (Or.inl ⟨rfl, hg⟩)⟩
      · exact ⟨_, _, rfl, hi.1, hi.2, Or.inr (Or.inr ⟨rfl, hg⟩)⟩
      · exact hg.elim
    · exact hg.elim
  · exact hg.elim
theorem az_sp_inv : ∀ (n : Nat) (acc st as r : List Value), az_sp n acc st = some (as, r) → ∃ bs, as = bs ++ acc ∧ bs.length = n ∧ st = bs.reverse ++ r
  | 0, acc, st, as, r, h => by
    cases h
    exact ⟨[], rfl, rfl, rfl⟩
  | n + 1, acc, v :: st, as, r, h => by
    obtain ⟨bs, h1, h2, h3⟩ := az_sp_inv n (v :: acc) st as r h
    exact ⟨bs ++ [v], by simp [h1], by simp [h2], by simp [h3]⟩
  | n + 1, acc, [], as, r, h => by cases h
theorem az_cat_sum : ∀ st : List Value, az_cat st = (st.map fun v => v.category).sum
  | [] => rfl
  | v :: st => by simp [az_cat, az_cat_sum st]
theorem az_call_inv {j : Nat} {as : List Value} (hg : az_go C Qa K (az_call j as pc lv st h)) : (st.map fun v => v.category).sum ≤ 8 ∧ ∃ v h', C j as h v h' ∧ K (pc, lv, v.toList ++ st, h') := by
  unfold az_call at hg; split at hg
  · rename_i hc
    exact ⟨by rw [← az_cat_sum]; exact hc, hg⟩
  · exact hg.elim
theorem az_inv_inv {j n : Nat} {ci : Int} (hg : az_go C Qa K (az_inv j n ci pc lv st h)) : ∃ as a r fs, st = as.reverse ++ .ref a :: r ∧ as.length = n ∧ h.1 a = az_ob ci.toNat fs ∧ (r.map fun v => v.category).sum ≤ 8 ∧ ∃ v h', C j (.ref a :: as) h v h' ∧ K (pc, lv, v.toList ++ r, h') := by
  unfold az_inv at hg; split at hg
  · rename_i hs
    obtain ⟨bs, h1, h2, h3⟩ := az_sp_inv _ _ _ _ _ hs
    split at hg
    · rename_i ho
      obtain ⟨fs, hf⟩ := az_isob_inv ho
      obtain ⟨q1, q2⟩ := az_call_inv hg
      rw [List.append_nil] at h1
      subst h1
      exact ⟨_, _, _, fs, h3, h2, hf, q1, q2⟩
    · exact hg.elim
  · exact hg.elim
theorem az_ins1_inv {j n : Nat} (hg : az_go C Qa K (az_ins1 j n pc lv st h)) : ∃ as a r, st = as.reverse ++ .ref a :: r ∧ as.length = n ∧ (r.map fun v => v.category).sum ≤ 8 ∧ ((j = 1000 ∧ K (pc, lv, r, h)) ∨ (j ≠ 1000 ∧ ∃ v h', C j (.ref a :: as) h v h' ∧ K (pc, lv, v.toList ++ r, h'))) := by
  unfold az_ins1 at hg; split at hg
  · rename_i hs
    obtain ⟨bs, h1, h2, h3⟩ := az_sp_inv _ _ _ _ _ hs
    rw [List.append_nil] at h1
    subst h1
    split at hg
    · rename_i hj
      split at hg
      · rename_i hc
        exact ⟨_, _, _, h3, h2, by rw [← az_cat_sum]; exact hc, Or.inl ⟨hj, hg⟩⟩
      · exact hg.elim
    · rename_i hj
      obtain ⟨q1, q2⟩ := az_call_inv hg
      exact ⟨_, _, _, h3, h2, q1, Or.inr ⟨hj, q2⟩⟩
  · exact hg.elim
theorem az_mx_inv {p : Int32 → Int32 → Bool} (hg : az_go C Qa K (az_mx p pc lv st h)) : ∃ x y r, st = .int y :: .int x :: r ∧ (r.map fun v => v.category).sum ≤ 8 ∧ K (pc, lv, .int (if p x y then y else x) :: r, h) := by
  unfold az_mx at hg; split at hg
  · split at hg
    · rename_i hc
      exact ⟨_, _, _, rfl, by rw [← az_cat_sum]; exact hc, hg⟩
    · exact hg.elim
  · exact hg.elim
theorem az_ac_inv (hg : az_go C Qa K (az_ac pc lv st h)) : ∃ n dp a sp b r n0 f n1 g, st = .int n :: .int dp :: .ref a :: .int sp :: .ref b :: r ∧ h.1 b = az_ia 0 n0 f ∧ h.1 a = az_ia 0 n1 g ∧ (r.map fun v => v.category).sum ≤ 8 ∧ (0 ≤ sp.toInt ∧ 0 ≤ dp.toInt ∧ 0 ≤ n.toInt ∧ sp.toInt + n.toInt ≤ n0 ∧ dp.toInt + n.toInt ≤ n1) ∧ K (pc, lv, r, az_uh h a (az_ia 0 n1 (az_cpy sp.toInt dp.toInt n.toInt f g))) := by
  unfold az_ac at hg; split at hg
  · split at hg
    · rename_i hb ha
      split at hg
      · rename_i hi
        obtain ⟨⟨rfl, rfl, hc⟩, hi⟩ := hi
        exact ⟨_, _, _, _, _, _, _, _, _, _, rfl, hb, ha, by rw [← az_cat_sum]; exact hc, hi, hg⟩
      · exact hg.elim
    · exact hg.elim
  · exact hg.elim
theorem az_sta1_inv {j n : Nat} (hg : az_go C Qa K (az_sta1 j n pc lv st h)) : (j = 1001 ∧ az_go C Qa K (az_mx (fun x y => decide (x < y)) pc lv st h)) ∨ (j = 1002 ∧ az_go C Qa K (az_mx (fun x y => decide (y < x)) pc lv st h)) ∨ (j = 1003 ∧ az_go C Qa K (az_ac pc lv st h)) ∨ ((j ≠ 1001 ∧ j ≠ 1002 ∧ j ≠ 1003) ∧ ∃ as r, st = as.reverse ++ r ∧ as.length = n ∧ (r.map fun v => v.category).sum ≤ 8 ∧ ∃ v h', C j as h v h' ∧ K (pc, lv, v.toList ++ r, h')) := by
  unfold az_sta1 at hg
  split at hg
  · rename_i hj; exact Or.inl ⟨hj, hg⟩
  · rename_i h1
    split at hg
    · rename_i hj; exact Or.inr (Or.inl ⟨hj, hg⟩)
    · rename_i h2
      split at hg
      · rename_i hj; exact Or.inr (Or.inr (Or.inl ⟨hj, hg⟩))
      · rename_i h3
        split at hg
        · rename_i hs
          obtain ⟨bs, e1, e2, e3⟩ := az_sp_inv _ _ _ _ _ hs
          rw [List.append_nil] at e1
          subst e1
          obtain ⟨q1, q2⟩ := az_call_inv hg
          exact Or.inr (Or.inr (Or.inr ⟨⟨h1, h2, h3⟩, _, _, e3, e2, q1, q2⟩))
        · exact hg.elim
theorem az_reti_inv {rt : Option FieldType} (hg : az_go C Qa K (az_reti rt st h)) : ∃ v ty, st = [.int v] ∧ rt = some ty ∧ narrow ty (.int v) = .int v ∧ Qa (some (.int v)) h := by
  unfold az_reti at hg; split at hg
  · exact ⟨_, _, rfl, rfl, rfl, hg⟩
  · split at hg
    · rename_i hv
      refine ⟨_, _, rfl, rfl, ?_, hg⟩
      rcases hv with rfl | rfl <;> rfl
    · exact hg.elim
  · exact hg.elim
theorem az_retl_inv {rt : Option FieldType} (hg : az_go C Qa K (az_retl rt st h)) : ∃ v, st = [.long v] ∧ rt = some .long ∧ Qa (some (.long v)) h := by
  unfold az_retl at hg; split at hg
  · exact ⟨_, rfl, rfl, hg⟩
  · exact hg.elim
theorem az_isrt_inv {rt : Option FieldType} (h : az_isrt rt = true) : ∃ ty, rt = some ty ∧ ((∃ n, ty = .object n) ∨ ∃ t, ty = .array t) := by
  unfold az_isrt at h; split at h
  · exact ⟨_, rfl, Or.inl ⟨_, rfl⟩⟩
  · exact ⟨_, rfl, Or.inr ⟨_, rfl⟩⟩
  · cases h
theorem az_reta_inv {rt : Option FieldType} (hg : az_go C Qa K (az_reta rt st h)) : ∃ v, st = [v] ∧ az_isrt rt = true ∧ (v = .null ∨ ∃ a, v = .ref a) ∧ Qa (some v) h := by
  unfold az_reta at hg; split at hg
  · split at hg
    · rename_i hr
      exact ⟨_, rfl, hr, Or.inr ⟨_, rfl⟩, hg⟩
    · exact hg.elim
  · split at hg
    · rename_i hr
      exact ⟨_, rfl, hr, Or.inl rfl, hg⟩
    · exact hg.elim
  · exact hg.elim
theorem az_retv_inv {rt : Option FieldType} (hg : az_go C Qa K (az_retv rt st h)) : st = [] ∧ rt = none ∧ Qa none h := by
  unfold az_retv at hg; split at hg
  · exact ⟨rfl, rfl, hg⟩
  · exact hg.elim
end AzInv
