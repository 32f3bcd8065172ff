/-! ===== THE REFERENCE: its cells out of a state S (field number, place) ===== -/
abbrev az_M : Type := Nat → Int → Int
def az_up (S : az_M) (k : Nat) (i v : Int) : az_M := fun k1 i1 => if k1 = k then (if i1 = i then v else S k1 i1) else S k1 i1
theorem az_up_ne {S : az_M} {k k1 : Nat} {i v : Int} (h : k1 ≠ k) : az_up S k i v k1 = S k1 := by
  funext j
  unfold az_up
  rw [if_neg h]
theorem az_up_at {S : az_M} {k : Nat} {i v j : Int} : az_up S k i v k j = if j = i then v else S k j := by
  unfold az_up
  rw [if_pos rfl]
def az_kR (o : Nat) : Nat := ([999, 3, 4, 5, 6, 7, 8, 9, 10, 11, 12, 13, 14, 15, 16, 17, 18, 19, 20, 21, 22, 23, 24, 25, 26, 27, 28, 29, 30, 31, 32, 34, 35, 36, 37, 39, 40, 41, 42, 44, 45, 46, 47, 53, 54] : List Nat).getD o 999
def az_tR (o : Nat) : Nat := ([0, 0, 0, 0, 0, 1, 0, 0, 0, 0, 0, 0, 0, 0, 0, 0, 0, 0, 1, 0, 0, 0, 2, 0, 0, 2, 0, 0, 0, 0, 0, 2, 0, 0, 0, 0, 0, 0, 1, 0, 0, 0, 0, 0, 0] : List Nat).getD o 0
def az_nR (o : Nat) : Nat := ([0, 16, 16, 640, 16, 12, 12, 12, 12, 12, 24, 12, 36, 36, 36, 12, 12, 12, 12, 12, 12, 12, 36, 36, 36, 120, 12, 12, 12, 12, 12, 1500, 1500, 1500, 6000, 40, 40, 40, 40, 1600, 1600, 1600, 1600, 10, 12] : List Nat).getD o 0
def az_fR (S : az_M) (r : Nat) : List Value := [.int (Int32.ofInt (S 0 0)), .int (Int32.ofInt (S 1 0)), .int (Int32.ofInt (S 2 0)), .ref (r + 1), .ref (r + 2), .ref (r + 3), .ref (r + 4), .ref (r + 5), .ref (r + 6), .ref (r + 7), .ref (r + 8), .ref (r + 9), .ref (r + 10), .ref (r + 11), .ref (r + 12), .ref (r + 13), .ref (r + 14), .ref (r + 15), .ref (r + 16), .ref (r + 17), .ref (r + 18), .ref (r + 19), .ref (r + 20), .ref (r + 21), .ref (r + 22), .ref (r + 23), .ref (r + 24), .ref (r + 25), .ref (r + 26), .ref (r + 27), .ref (r + 28), .ref (r + 29), .ref (r + 30), .int (Int32.ofInt (S 33 0)), .ref (r + 31), .ref (r + 32), .ref (r + 33), .ref (r + 34), .int (Int32.ofInt (S 38 0)), .ref (r + 35), .ref (r + 36), .ref (r + 37), .ref (r + 38), .int (Int32.ofInt (S 43 0)), .ref (r + 39), .ref (r + 40), .ref (r + 41), .ref (r + 42), .long (Int64.ofInt (S 48 0)), .long (Int64.ofInt (S 49 0)), .long (Int64.ofInt (S 50 0)), .long (Int64.ofInt (S 51 0)), .long (Int64.ofInt (S 52 0)), .ref (r + 43), .ref (r + 44)]
def az_cR (S : az_M) (r o : Nat) : az_C := if o = 0 then az_ob 11 (az_fR S r) else if az_tR o = 2 then az_la (az_nR o) (fun i => Int64.ofInt (S (az_kR o) i)) else az_ia (az_tR o) (az_nR o) (fun i => Int32.ofInt (S (az_kR o) i))
def az_RH (r : Nat) (S : az_M) (f : Nat → az_C) : Nat → az_C := fun a => if r ≤ a ∧ a < r + 45 then az_cR S r (a - r) else f a
theorem az_RH_at {r : Nat} {S : az_M} {f : Nat → az_C} (o : Nat) (h : o < 45) : az_RH r S f (r + o) = az_cR S r o := by
  unfold az_RH
  rw [if_pos (by omega), Nat.add_sub_cancel_left]
theorem az_RH_0 {r : Nat} {S : az_M} {f : Nat → az_C} : az_RH r S f r = az_ob 11 (az_fR S r) := az_RH_at 0 (by decide)
theorem az_RH_set {r : Nat} {S S1 : az_M} {f : Nat → az_C} {c : az_C} (o : Nat) (h : o < 45) (hc : az_cR S1 r o = c) (hn : ∀ o1, o1 < 45 → o1 ≠ o → az_cR S1 r o1 = az_cR S r o1) : va_up (az_RH r S f) (r + o) c = az_RH r S1 f := by
  funext a
  unfold va_up az_RH
  by_cases ha : a = r + o
  · rw [if_pos ha, if_pos (by omega), ha, Nat.add_sub_cancel_left, hc]
  · rw [if_neg ha]
    by_cases hb : r ≤ a ∧ a < r + 45
    · rw [if_pos hb, if_pos hb, hn (a - r) (by omega) (by omega)]
    · rw [if_neg hb, if_neg hb]
theorem az_kR_inj : ∀ o, o < 45 → ∀ o1, o1 < 45 → o1 ≠ o → az_kR o1 ≠ az_kR o := by decide +kernel
theorem az_fR_up {S : az_M} {r k : Nat} {i v : Int} (h : k ∉ ([0, 1, 2, 33, 38, 43, 48, 49, 50, 51, 52] : List Nat)) : az_fR (az_up S k i v) r = az_fR S r := by
  simp only [List.mem_cons, List.not_mem_nil, or_false, not_or] at h
  obtain ⟨h0, h1, h2, h33, h38, h43, h48, h49, h50, h51, h52⟩ := h
  unfold az_fR
  rw [az_up_ne (k1 := 0) (fun q => h0 q.symm), az_up_ne (k1 := 1) (fun q => h1 q.symm), az_up_ne (k1 := 2) (fun q => h2 q.symm), az_up_ne (k1 := 33) (fun q => h33 q.symm), az_up_ne (k1 := 38) (fun q => h38 q.symm), az_up_ne (k1 := 43) (fun q => h43 q.symm), az_up_ne (k1 := 48) (fun q => h48 q.symm), az_up_ne (k1 := 49) (fun q => h49 q.symm), az_up_ne (k1 := 50) (fun q => h50 q.symm), az_up_ne (k1 := 51) (fun q => h51 q.symm), az_up_ne (k1 := 52) (fun q => h52 q.symm)]
theorem az_kR_sc : ∀ o, o < 45 → 1 ≤ o → az_kR o ∉ ([0, 1, 2, 33, 38, 43, 48, 49, 50, 51, 52] : List Nat) := by decide +kernel
theorem az_RH_upI {r : Nat} {S : az_M} {f : Nat → az_C} {i : Int} {x : Int32} (o : Nat) (h1 : 1 ≤ o) (h : o < 45) (ht : az_tR o ≠ 2) : va_up (az_RH r S f) (r + o) (az_ia (az_tR o) (az_nR o) (az_ui (fun j => Int32.ofInt (S (az_kR o) j)) i x)) = az_RH r (az_up S (az_kR o) i x.toInt) f := by
  refine az_RH_set o h ?_ (fun o1 h2 h3 => ?_)
  · unfold az_cR
    rw [if_neg (by omega), if_neg ht]
    congr 3
    funext j
    rw [az_up_at]
    unfold az_ui
    split
    · exact Int32.ofInt_toInt x
    · rfl
  · unfold az_cR
    rw [az_fR_up (az_kR_sc o h h1), az_up_ne (az_kR_inj o h o1 h2 h3)]
theorem az_RH_upL {r : Nat} {S : az_M} {f : Nat → az_C} {i : Int} {x : Int64} (o : Nat) (h1 : 1 ≤ o) (h : o < 45) (ht : az_tR o = 2) : va_up (az_RH r S f) (r + o) (az_la (az_nR o) (az_ui (fun j => Int64.ofInt (S (az_kR o) j)) i x)) = az_RH r (az_up S (az_kR o) i x.toInt) f := by
  refine az_RH_set o h ?_ (fun o1 h2 h3 => ?_)
  · unfold az_cR
    rw [if_neg (by omega), if_pos ht]
    congr 3
    funext j
    rw [az_up_at]
    unfold az_ui
    split
    · exact Int64.ofInt_toInt x
    · rfl
  · unfold az_cR
    rw [az_fR_up (az_kR_sc o h h1), az_up_ne (az_kR_inj o h o1 h2 h3)]
def az_cw (S : az_M) (o : Nat) (i : Int) (x : Int32) : az_C := az_ia (az_tR o) (az_nR o) (az_ui (fun j => Int32.ofInt (S (az_kR o) j)) i x)
def az_cv (S : az_M) (o : Nat) (i : Int) (x : Int64) : az_C := az_la (az_nR o) (az_ui (fun j => Int64.ofInt (S (az_kR o) j)) i x)
section AzRef
variable {r : Nat} {S : az_M} {f : Nat → az_C} {z : Nat × Nat}
theorem az_Rf0 {K : Value → Prop} : az_mf (az_RH r S f r) 11 0 K = K (.int (Int32.ofInt (S 0 0))) := by rw [az_RH_0]; rfl
theorem az_Rw0 {x : Int32} {K : az_C → Prop} : az_mp (az_RH r S f r) 11 0 2 (.int x) K = ((x = 0 ∨ x = 1) ∧ K (az_ob 11 ((az_fR S r).set 0 (.int x)))) := by rw [az_RH_0]; exact propext ⟨fun z => ⟨by simpa [az_fit] using z.1, z.2⟩, fun z => ⟨by simpa [az_fit] using z.1, z.2⟩⟩
theorem az_Ru0 {x : Int32} : az_uh (az_RH r S f, z) r (az_ob 11 ((az_fR S r).set 0 (.int x))) = (az_RH r (az_up S 0 0 x.toInt) f, z) := by
  unfold az_uh
  refine Prod.ext ?_ rfl
  refine az_RH_set 0 (by decide) ?_ (fun o1 h2 h3 => ?_)
  · show az_ob 11 (az_fR (az_up S 0 0 x.toInt) r) = _
    unfold az_fR
    rw [az_up_ne (k1 := 1) (by decide), az_up_ne (k1 := 2) (by decide), az_up_ne (k1 := 33) (by decide), az_up_ne (k1 := 38) (by decide), az_up_ne (k1 := 43) (by decide), az_up_ne (k1 := 48) (by decide), az_up_ne (k1 := 49) (by decide), az_up_ne (k1 := 50) (by decide), az_up_ne (k1 := 51) (by decide), az_up_ne (k1 := 52) (by decide), az_up_at, if_pos rfl, Int32.ofInt_toInt]
    rfl
  · unfold az_cR
    rw [if_neg h3, if_neg h3, az_up_ne (show az_kR o1 ≠ 0 by revert o1; decide +kernel)]
theorem az_Rf1 {K : Value → Prop} : az_mf (az_RH r S f r) 11 1 K = K (.int (Int32.ofInt (S 1 0))) := by rw [az_RH_0]; rfl
theorem az_Rw1 {x : Int32} {K : az_C → Prop} : az_mp (az_RH r S f r) 11 1 2 (.int x) K = ((x = 0 ∨ x = 1) ∧ K (az_ob 11 ((az_fR S r).set 1 (.int x)))) := by rw [az_RH_0]; exact propext ⟨fun z => ⟨by simpa [az_fit] using z.1, z.2⟩, fun z => ⟨by simpa [az_fit] using z.1, z.2⟩⟩
theorem az_Ru1 {x : Int32} : az_uh (az_RH r S f, z) r (az_ob 11 ((az_fR S r).set 1 (.int x))) = (az_RH r (az_up S 1 0 x.toInt) f, z) := by
  unfold az_uh
  refine Prod.ext ?_ rfl
  refine az_RH_set 0 (by decide) ?_ (fun o1 h2 h3 => ?_)
  · show az_ob 11 (az_fR (az_up S 1 0 x.toInt) r) = _
    unfold az_fR
    rw [az_up_ne (k1 := 0) (by decide), az_up_ne (k1 := 2) (by decide), az_up_ne (k1 := 33) (by decide), az_up_ne (k1 := 38) (by decide), az_up_ne (k1 := 43) (by decide), az_up_ne (k1 := 48) (by decide), az_up_ne (k1 := 49) (by decide), az_up_ne (k1 := 50) (by decide), az_up_ne (k1 := 51) (by decide), az_up_ne (k1 := 52) (by decide), az_up_at, if_pos rfl, Int32.ofInt_toInt]
    rfl
  · unfold az_cR
    rw [if_neg h3, if_neg h3, az_up_ne (show az_kR o1 ≠ 1 by revert o1; decide +kernel)]
theorem az_Rf2 {K : Value → Prop} : az_mf (az_RH r S f r) 11 2 K = K (.int (Int32.ofInt (S 2 0))) := by rw [az_RH_0]; rfl
theorem az_Rw2 {x : Int32} {K : az_C → Prop} : az_mp (az_RH r S f r) 11 2 0 (.int x) K = K (az_ob 11 ((az_fR S r).set 2 (.int x))) := by rw [az_RH_0]; exact propext ⟨fun z => z.2, fun z => ⟨rfl, z⟩⟩
theorem az_Ru2 {x : Int32} : az_uh (az_RH r S f, z) r (az_ob 11 ((az_fR S r).set 2 (.int x))) = (az_RH r (az_up S 2 0 x.toInt) f, z) := by
  unfold az_uh
  refine Prod.ext ?_ rfl
  refine az_RH_set 0 (by decide) ?_ (fun o1 h2 h3 => ?_)
  · show az_ob 11 (az_fR (az_up S 2 0 x.toInt) r) = _
    unfold az_fR
    rw [az_up_ne (k1 := 0) (by decide), az_up_ne (k1 := 1) (by decide), az_up_ne (k1 := 33) (by decide), az_up_ne (k1 := 38) (by decide), az_up_ne (k1 := 43) (by decide), az_up_ne (k1 := 48) (by decide), az_up_ne (k1 := 49) (by decide), az_up_ne (k1 := 50) (by decide), az_up_ne (k1 := 51) (by decide), az_up_ne (k1 := 52) (by decide), az_up_at, if_pos rfl, Int32.ofInt_toInt]
    rfl
  · unfold az_cR
    rw [if_neg h3, if_neg h3, az_up_ne (show az_kR o1 ≠ 2 by revert o1; decide +kernel)]
theorem az_Rf3 {K : Value → Prop} : az_mf (az_RH r S f r) 11 3 K = K (.ref (r + 1)) := by rw [az_RH_0]; rfl
theorem az_Rr3 {i : Int} {K : Int32 → Prop} : az_mr (az_RH r S f (r + 1)) 0 i K = ((0 ≤ i ∧ i < 16) ∧ K (Int32.ofInt (S 3 i))) := by rw [az_RH_at 1 (by decide)]; exact propext ⟨fun z => ⟨z.1.2, z.2⟩, fun z => ⟨⟨rfl, z.1⟩, z.2⟩⟩
theorem az_Rw3 {i : Int} {x : Int32} {K : az_C → Prop} : az_mw' (az_RH r S f (r + 1)) i x K = ((0 ≤ i ∧ i < 16) ∧ K (az_cw S 1 i x)) := by rw [az_RH_at 1 (by decide)]; exact propext ⟨fun z => ⟨z.1.2, z.2⟩, fun z => ⟨⟨rfl, z.1⟩, z.2⟩⟩
theorem az_Ru3 {i : Int} {x : Int32} : az_uh (az_RH r S f, z) (r + 1) (az_cw S 1 i x) = (az_RH r (az_up S 3 i x.toInt) f, z) := Prod.ext (az_RH_upI 1 (by decide) (by decide) (by decide)) rfl
theorem az_Rf4 {K : Value → Prop} : az_mf (az_RH r S f r) 11 4 K = K (.ref (r + 2)) := by rw [az_RH_0]; rfl
theorem az_Rr4 {i : Int} {K : Int32 → Prop} : az_mr (az_RH r S f (r + 2)) 0 i K = ((0 ≤ i ∧ i < 16) ∧ K (Int32.ofInt (S 4 i))) := by rw [az_RH_at 2 (by decide)]; exact propext ⟨fun z => ⟨z.1.2, z.2⟩, fun z => ⟨⟨rfl, z.1⟩, z.2⟩⟩
theorem az_Rw4 {i : Int} {x : Int32} {K : az_C → Prop} : az_mw' (az_RH r S f (r + 2)) i x K = ((0 ≤ i ∧ i < 16) ∧ K (az_cw S 2 i x)) := by rw [az_RH_at 2 (by decide)]; exact propext ⟨fun z => ⟨z.1.2, z.2⟩, fun z => ⟨⟨rfl, z.1⟩, z.2⟩⟩
theorem az_Ru4 {i : Int} {x : Int32} : az_uh (az_RH r S f, z) (r + 2) (az_cw S 2 i x) = (az_RH r (az_up S 4 i x.toInt) f, z) := Prod.ext (az_RH_upI 2 (by decide) (by decide) (by decide)) rfl
theorem az_Rf5 {K : Value → Prop} : az_mf (az_RH r S f r) 11 5 K = K (.ref (r + 3)) := by rw [az_RH_0]; rfl
theorem az_Rr5 {i : Int} {K : Int32 → Prop} : az_mr (az_RH r S f (r + 3)) 0 i K = ((0 ≤ i ∧ i < 640) ∧ K (Int32.ofInt (S 5 i))) := by rw [az_RH_at 3 (by decide)]; exact propext ⟨fun z => ⟨z.1.2, z.2⟩, fun z => ⟨⟨rfl, z.1⟩, z.2⟩⟩
theorem az_Rw5 {i : Int} {x : Int32} {K : az_C → Prop} : az_mw' (az_RH r S f (r + 3)) i x K = ((0 ≤ i ∧ i < 640) ∧ K (az_cw S 3 i x)) := by rw [az_RH_at 3 (by decide)]; exact propext ⟨fun z => ⟨z.1.2, z.2⟩, fun z => ⟨⟨rfl, z.1⟩, z.2⟩⟩
theorem az_Ru5 {i : Int} {x : Int32} : az_uh (az_RH r S f, z) (r + 3) (az_cw S 3 i x) = (az_RH r (az_up S 5 i x.toInt) f, z) := Prod.ext (az_RH_upI 3 (by decide) (by decide) (by decide)) rfl
theorem az_Rf6 {K : Value → Prop} : az_mf (az_RH r S f r) 11 6 K = K (.ref (r + 4)) := by rw [az_RH_0]; rfl
theorem az_Rr6 {i : Int} {K : Int32 → Prop} : az_mr (az_RH r S f (r + 4)) 0 i K = ((0 ≤ i ∧ i < 16) ∧ K (Int32.ofInt (S 6 i))) := by rw [az_RH_at 4 (by decide)]; exact propext ⟨fun z => ⟨z.1.2, z.2⟩, fun z => ⟨⟨rfl, z.1⟩, z.2⟩⟩
theorem az_Rw6 {i : Int} {x : Int32} {K : az_C → Prop} : az_mw' (az_RH r S f (r + 4)) i x K = ((0 ≤ i ∧ i < 16) ∧ K (az_cw S 4 i x)) := by rw [az_RH_at 4 (by decide)]; exact propext ⟨fun z => ⟨z.1.2, z.2⟩, fun z => ⟨⟨rfl, z.1⟩, z.2⟩⟩
theorem az_Ru6 {i : Int} {x : Int32} : az_uh (az_RH r S f, z) (r + 4) (az_cw S 4 i x) = (az_RH r (az_up S 6 i x.toInt) f, z) := Prod.ext (az_RH_upI 4 (by decide) (by decide) (by decide)) rfl
theorem az_Rf7 {K : Value → Prop} : az_mf (az_RH r S f r) 11 7 K = K (.ref (r + 5)) := by rw [az_RH_0]; rfl
theorem az_Rr7 {i : Int} {K : Int32 → Prop} : az_mr (az_RH r S f (r + 5)) 1 i K = ((0 ≤ i ∧ i < 12) ∧ K (Int32.ofInt (S 7 i))) := by rw [az_RH_at 5 (by decide)]; exact propext ⟨fun z => ⟨z.1.2, z.2⟩, fun z => ⟨⟨rfl, z.1⟩, z.2⟩⟩
theorem az_Rw7 {i : Int} {x : Int32} {K : az_C → Prop} : az_mz (az_RH r S f (r + 5)) i x K = (((x = 0 ∨ x = 1) ∧ 0 ≤ i ∧ i < 12) ∧ K (az_cw S 5 i x)) := by rw [az_RH_at 5 (by decide)]; exact propext ⟨fun z => ⟨⟨z.1.1.2, z.1.2⟩, z.2⟩, fun z => ⟨⟨⟨rfl, z.1.1⟩, z.1.2⟩, z.2⟩⟩
theorem az_Ru7 {i : Int} {x : Int32} : az_uh (az_RH r S f, z) (r + 5) (az_cw S 5 i x) = (az_RH r (az_up S 7 i x.toInt) f, z) := Prod.ext (az_RH_upI 5 (by decide) (by decide) (by decide)) rfl
theorem az_Rf8 {K : Value → Prop} : az_mf (az_RH r S f r) 11 8 K = K (.ref (r + 6)) := by rw [az_RH_0]; rfl
theorem az_Rr8 {i : Int} {K : Int32 → Prop} : az_mr (az_RH r S f (r + 6)) 0 i K = ((0 ≤ i ∧ i < 12) ∧ K (Int32.ofInt (S 8 i))) := by rw [az_RH_at 6 (by decide)]; exact propext ⟨fun z => ⟨z.1.2, z.2⟩, fun z => ⟨⟨rfl, z.1⟩, z.2⟩⟩
theorem az_Rw8 {i : Int} {x : Int32} {K : az_C → Prop} : az_mw' (az_RH r S f (r + 6)) i x K = ((0 ≤ i ∧ i < 12) ∧ K (az_cw S 6 i x)) := by rw [az_RH_at 6 (by decide)]; exact propext ⟨fun z => ⟨z.1.2, z.2⟩, fun z => ⟨⟨rfl, z.1⟩, z.2⟩⟩
theorem az_Ru8 {i : Int} {x : Int32} : az_uh (az_RH r S f, z) (r + 6) (az_cw S 6 i x) = (az_RH r (az_up S 8 i x.toInt) f, z) := Prod.ext (az_RH_upI 6 (by decide) (by decide) (by decide)) rfl
theorem az_Rf9 {K : Value → Prop} : az_mf (az_RH r S f r) 11 9 K = K (.ref (r + 7)) := by rw [az_RH_0]; rfl
theorem az_Rr9 {i : Int} {K : Int32 → Prop} : az_mr (az_RH r S f (r + 7)) 0 i K = ((0 ≤ i ∧ i < 12) ∧ K (Int32.ofInt (S 9 i))) := by rw [az_RH_at 7 (by decide)]; exact propext ⟨fun z => ⟨z.1.2, z.2⟩, fun z => ⟨⟨rfl, z.1⟩, z.2⟩⟩
theorem az_Rw9 {i : Int} {x : Int32} {K : az_C → Prop} : az_mw' (az_RH r S f (r + 7)) i x K = ((0 ≤ i ∧ i < 12) ∧ K (az_cw S 7 i x)) := by rw [az_RH_at 7 (by decide)]; exact propext ⟨fun z => ⟨z.1.2, z.2⟩, fun z => ⟨⟨rfl, z.1⟩, z.2⟩⟩
theorem az_Ru9 {i : Int} {x : Int32} : az_uh (az_RH r S f, z) (r + 7) (az_cw S 7 i x) = (az_RH r (az_up S 9 i x.toInt) f, z) := Prod.ext (az_RH_upI 7 (by decide) (by decide) (by decide)) rfl
theorem az_Rf10 {K : Value → Prop} : az_mf (az_RH r S f r) 11 10 K = K (.ref (r + 8)) := by rw [az_RH_0]; rfl
theorem az_Rr10 {i : Int} {K : Int32 → Prop} : az_mr (az_RH r S f (r + 8)) 0 i K = ((0 ≤ i ∧ i < 12) ∧ K (Int32.ofInt (S 10 i))) := by rw [az_RH_at 8 (by decide)]; exact propext ⟨fun z => ⟨z.1.2, z.2⟩, fun z => ⟨⟨rfl, z.1⟩, z.2⟩⟩
theorem az_Rw10 {i : Int} {x : Int32} {K : az_C → Prop} : az_mw' (az_RH r S f (r + 8)) i x K = ((0 ≤ i ∧ i < 12) ∧ K (az_cw S 8 i x)) := by rw [az_RH_at 8 (by decide)]; exact propext ⟨fun z => ⟨z.1.2, z.2⟩, fun z => ⟨⟨rfl, z.1⟩, z.2⟩⟩
theorem az_Ru10 {i : Int} {x : Int32} : az_uh (az_RH r S f, z) (r + 8) (az_cw S 8 i x) = (az_RH r (az_up S 10 i x.toInt) f, z) := Prod.ext (az_RH_upI 8 (by decide) (by decide) (by decide)) rfl
theorem az_Rf11 {K : Value → Prop} : az_mf (az_RH r S f r) 11 11 K = K (.ref (r + 9)) := by rw [az_RH_0]; rfl
theorem az_Rr11 {i : Int} {K : Int32 → Prop} : az_mr (az_RH r S f (r + 9)) 0 i K = ((0 ≤ i ∧ i < 12) ∧ K (Int32.ofInt (S 11 i))) := by rw [az_RH_at 9 (by decide)]; exact propext ⟨fun z => ⟨z.1.2, z.2⟩, fun z => ⟨⟨rfl, z.1⟩, z.2⟩⟩
theorem az_Rw11 {i : Int} {x : Int32} {K : az_C → Prop} : az_mw' (az_RH r S f (r + 9)) i x K = ((0 ≤ i ∧ i < 12) ∧ K (az_cw S 9 i x)) := by rw [az_RH_at 9 (by decide)]; exact propext ⟨fun z => ⟨z.1.2, z.2⟩, fun z => ⟨⟨rfl, z.1⟩, z.2⟩⟩
theorem az_Ru11 {i : Int} {x : Int32} : az_uh (az_RH r S f, z) (r + 9) (az_cw S 9 i x) = (az_RH r (az_up S 11 i x.toInt) f, z) := Prod.ext (az_RH_upI 9 (by decide) (by decide) (by decide)) rfl
theorem az_Rf12 {K : Value → Prop} : az_mf (az_RH r S f r) 11 12 K = K (.ref (r + 10)) := by rw [az_RH_0]; rfl
theorem az_Rr12 {i : Int} {K : Int32 → Prop} : az_mr (az_RH r S f (r + 10)) 0 i K = ((0 ≤ i ∧ i < 24) ∧ K (Int32.ofInt (S 12 i))) := by rw [az_RH_at 10 (by decide)]; exact propext ⟨fun z => ⟨z.1.2, z.2⟩, fun z => ⟨⟨rfl, z.1⟩, z.2⟩⟩
theorem az_Rw12 {i : Int} {x : Int32} {K : az_C → Prop} : az_mw' (az_RH r S f (r + 10)) i x K = ((0 ≤ i ∧ i < 24) ∧ K (az_cw S 10 i x)) := by rw [az_RH_at 10 (by decide)]; exact propext ⟨fun z => ⟨z.1.2, z.2⟩, fun z => ⟨⟨rfl, z.1⟩, z.2⟩⟩
theorem az_Ru12 {i : Int} {x : Int32} : az_uh (az_RH r S f, z) (r + 10) (az_cw S 10 i x) = (az_RH r (az_up S 12 i x.toInt) f, z) := Prod.ext (az_RH_upI 10 (by decide) (by decide) (by decide)) rfl
theorem az_Rf13 {K : Value → Prop} : az_mf (az_RH r S f r) 11 13 K = K (.ref (r + 11)) := by rw [az_RH_0]; rfl
theorem az_Rr13 {i : Int} {K : Int32 → Prop} : az_mr (az_RH r S f (r + 11)) 0 i K = ((0 ≤ i ∧ i < 12) ∧ K (Int32.ofInt (S 13 i))) := by rw [az_RH_at 11 (by decide)]; exact propext ⟨fun z => ⟨z.1.2, z.2⟩, fun z => ⟨⟨rfl, z.1⟩, z.2⟩⟩
theorem az_Rw13 {i : Int} {x : Int32} {K : az_C → Prop} : az_mw' (az_RH r S f (r + 11)) i x K = ((0 ≤ i ∧ i < 12) ∧ K (az_cw S 11 i x)) := by rw [az_RH_at 11 (by decide)]; exact propext ⟨fun z => ⟨z.1.2, z.2⟩, fun z => ⟨⟨rfl, z.1⟩, z.2⟩⟩
theorem az_Ru13 {i : Int} {x : Int32} : az_uh (az_RH r S f, z) (r + 11) (az_cw S 11 i x) = (az_RH r (az_up S 13 i x.toInt) f, z) := Prod.ext (az_RH_upI 11 (by decide) (by decide) (by decide)) rfl
theorem az_Rf14 {K : Value → Prop} : az_mf (az_RH r S f r) 11 14 K = K (.ref (r + 12)) := by rw [az_RH_0]; rfl
theorem az_Rr14 {i : Int} {K : Int32 → Prop} : az_mr (az_RH r S f (r + 12)) 0 i K = ((0 ≤ i ∧ i < 36) ∧ K (Int32.ofInt (S 14 i))) := by rw [az_RH_at 12 (by decide)]; exact propext ⟨fun z => ⟨z.1.2, z.2⟩, fun z => ⟨⟨rfl, z.1⟩, z.2⟩⟩
theorem az_Rw14 {i : Int} {x : Int32} {K : az_C → Prop} : az_mw' (az_RH r S f (r + 12)) i x K = ((0 ≤ i ∧ i < 36) ∧ K (az_cw S 12 i x)) := by rw [az_RH_at 12 (by decide)]; exact propext ⟨fun z => ⟨z.1.2, z.2⟩, fun z => ⟨⟨rfl, z.1⟩, z.2⟩⟩
theorem az_Ru14 {i : Int} {x : Int32} : az_uh (az_RH r S f, z) (r + 12) (az_cw S 12 i x) = (az_RH r (az_up S 14 i x.toInt) f, z) := Prod.ext (az_RH_upI 12 (by decide) (by decide) (by decide)) rfl
theorem az_Rf15 {K : Value → Prop} : az_mf (az_RH r S f r) 11 15 K = K (.ref (r + 13)) := by rw [az_RH_0]; rfl
theorem az_Rr15 {i : Int} {K : Int32 → Prop} : az_mr (az_RH r S f (r + 13)) 0 i K = ((0 ≤ i ∧ i < 36) ∧ K (Int32.ofInt (S 15 i))) := by rw [az_RH_at 13 (by decide)]; exact propext ⟨fun z => ⟨z.1.2, z.2⟩, fun z => ⟨⟨rfl, z.1⟩, z.2⟩⟩
theorem az_Rw15 {i : Int} {x : Int32} {K : az_C → Prop} : az_mw' (az_RH r S f (r + 13)) i x K = ((0 ≤ i ∧ i < 36) ∧ K (az_cw S 13 i x)) := by rw [az_RH_at 13 (by decide)]; exact propext ⟨fun z => ⟨z.1.2, z.2⟩, fun z => ⟨⟨rfl, z.1⟩, z.2⟩⟩
theorem az_Ru15 {i : Int} {x : Int32} : az_uh (az_RH r S f, z) (r + 13) (az_cw S 13 i x) = (az_RH r (az_up S 15 i x.toInt) f, z) := Prod.ext (az_RH_upI 13 (by decide) (by decide) (by decide)) rfl
theorem az_Rf16 {K : Value → Prop} : az_mf (az_RH r S f r) 11 16 K = K (.ref (r + 14)) := by rw [az_RH_0]; rfl
theorem az_Rr16 {i : Int} {K : Int32 → Prop} : az_mr (az_RH r S f (r + 14)) 0 i K = ((0 ≤ i ∧ i < 36) ∧ K (Int32.ofInt (S 16 i))) := by rw [az_RH_at 14 (by decide)]; exact propext ⟨fun z => ⟨z.1.2, z.2⟩, fun z => ⟨⟨rfl, z.1⟩, z.2⟩⟩
theorem az_Rw16 {i : Int} {x : Int32} {K : az_C → Prop} : az_mw' (az_RH r S f (r + 14)) i x K = ((0 ≤ i ∧ i < 36) ∧ K (az_cw S 14 i x)) := by rw [az_RH_at 14 (by decide)]; exact propext ⟨fun z => ⟨z.1.2, z.2⟩, fun z => ⟨⟨rfl, z.1⟩, z.2⟩⟩
theorem az_Ru16 {i : Int} {x : Int32} : az_uh (az_RH r S f, z) (r + 14) (az_cw S 14 i x) = (az_RH r (az_up S 16 i x.toInt) f, z) := Prod.ext (az_RH_upI 14 (by decide) (by decide) (by decide)) rfl
theorem az_Rf17 {K : Value → Prop} : az_mf (az_RH r S f r) 11 17 K = K (.ref (r + 15)) := by rw [az_RH_0]; rfl
theorem az_Rr17 {i : Int} {K : Int32 → Prop} : az_mr (az_RH r S f (r + 15)) 0 i K = ((0 ≤ i ∧ i < 12) ∧ K (Int32.ofInt (S 17 i))) := by rw [az_RH_at 15 (by decide)]; exact propext ⟨fun z => ⟨z.1.2, z.2⟩, fun z => ⟨⟨rfl, z.1⟩, z.2⟩⟩
theorem az_Rw17 {i : Int} {x : Int32} {K : az_C → Prop} : az_mw' (az_RH r S f (r + 15)) i x K = ((0 ≤ i ∧ i < 12) ∧ K (az_cw S 15 i x)) := by rw [az_RH_at 15 (by decide)]; exact propext ⟨fun z => ⟨z.1.2, z.2⟩, fun z => ⟨⟨rfl, z.1⟩, z.2⟩⟩
theorem az_Ru17 {i : Int} {x : Int32} : az_uh (az_RH r S f, z) (r + 15) (az_cw S 15 i x) = (az_RH r (az_up S 17 i x.toInt) f, z) := Prod.ext (az_RH_upI 15 (by decide) (by decide) (by decide)) rfl
theorem az_Rf18 {K : Value → Prop} : az_mf (az_RH r S f r) 11 18 K = K (.ref (r + 16)) := by rw [az_RH_0]; rfl
theorem az_Rr18 {i : Int} {K : Int32 → Prop} : az_mr (az_RH r S f (r + 16)) 0 i K = ((0 ≤ i ∧ i < 12) ∧ K (Int32.ofInt (S 18 i))) := by rw [az_RH_at 16 (by decide)]; exact propext ⟨fun z => ⟨z.1.2, z.2⟩, fun z => ⟨⟨rfl, z.1⟩, z.2⟩⟩
theorem az_Rw18 {i : Int} {x : Int32} {K : az_C → Prop} : az_mw' (az_RH r S f (r + 16)) i x K = ((0 ≤ i ∧ i < 12) ∧ K (az_cw S 16 i x)) := by rw [az_RH_at 16 (by decide)]; exact propext ⟨fun z => ⟨z.1.2, z.2⟩, fun z => ⟨⟨rfl, z.1⟩, z.2⟩⟩
theorem az_Ru18 {i : Int} {x : Int32} : az_uh (az_RH r S f, z) (r + 16) (az_cw S 16 i x) = (az_RH r (az_up S 18 i x.toInt) f, z) := Prod.ext (az_RH_upI 16 (by decide) (by decide) (by decide)) rfl
theorem az_Rf19 {K : Value → Prop} : az_mf (az_RH r S f r) 11 19 K = K (.ref (r + 17)) := by rw [az_RH_0]; rfl
theorem az_Rr19 {i : Int} {K : Int32 → Prop} : az_mr (az_RH r S f (r + 17)) 0 i K = ((0 ≤ i ∧ i < 12) ∧ K (Int32.ofInt (S 19 i))) := by rw [az_RH_at 17 (by decide)]; exact propext ⟨fun z => ⟨z.1.2, z.2⟩, fun z => ⟨⟨rfl, z.1⟩, z.2⟩⟩
theorem az_Rw19 {i : Int} {x : Int32} {K : az_C → Prop} : az_mw' (az_RH r S f (r + 17)) i x K = ((0 ≤ i ∧ i < 12) ∧ K (az_cw S 17 i x)) := by rw [az_RH_at 17 (by decide)]; exact propext ⟨fun z => ⟨z.1.2, z.2⟩, fun z => ⟨⟨rfl, z.1⟩, z.2⟩⟩
theorem az_Ru19 {i : Int} {x : Int32} : az_uh (az_RH r S f, z) (r + 17) (az_cw S 17 i x) = (az_RH r (az_up S 19 i x.toInt) f, z) := Prod.ext (az_RH_upI 17 (by decide) (by decide) (by decide)) rfl
theorem az_Rf20 {K : Value → Prop} : az_mf (az_RH r S f r) 11 20 K = K (.ref (r + 18)) := by rw [az_RH_0]; rfl
theorem az_Rr20 {i : Int} {K : Int32 → Prop} : az_mr (az_RH r S f (r + 18)) 1 i K = ((0 ≤ i ∧ i < 12) ∧ K (Int32.ofInt (S 20 i))) := by rw [az_RH_at 18 (by decide)]; exact propext ⟨fun z => ⟨z.1.2, z.2⟩, fun z => ⟨⟨rfl, z.1⟩, z.2⟩⟩
theorem az_Rw20 {i : Int} {x : Int32} {K : az_C → Prop} : az_mz (az_RH r S f (r + 18)) i x K = (((x = 0 ∨ x = 1) ∧ 0 ≤ i ∧ i < 12) ∧ K (az_cw S 18 i x)) := by rw [az_RH_at 18 (by decide)]; exact propext ⟨fun z => ⟨⟨z.1.1.2, z.1.2⟩, z.2⟩, fun z => ⟨⟨⟨rfl, z.1.1⟩, z.1.2⟩, z.2⟩⟩
theorem az_Ru20 {i : Int} {x : Int32} : az_uh (az_RH r S f, z) (r + 18) (az_cw S 18 i x) = (az_RH r (az_up S 20 i x.toInt) f, z) := Prod.ext (az_RH_upI 18 (by decide) (by decide) (by decide)) rfl
theorem az_Rf21 {K : Value → Prop} : az_mf (az_RH r S f r) 11 21 K = K (.ref (r + 19)) := by rw [az_RH_0]; rfl
theorem az_Rr21 {i : Int} {K : Int32 → Prop} : az_mr (az_RH r S f (r + 19)) 0 i K = ((0 ≤ i ∧ i < 12) ∧ K (Int32.ofInt (S 21 i))) := by rw [az_RH_at 19 (by decide)]; exact propext ⟨fun z => ⟨z.1.2, z.2⟩, fun z => ⟨⟨rfl, z.1⟩, z.2⟩⟩
theorem az_Rw21 {i : Int} {x : Int32} {K : az_C → Prop} : az_mw' (az_RH r S f (r + 19)) i x K = ((0 ≤ i ∧ i < 12) ∧ K (az_cw S 19 i x)) := by rw [az_RH_at 19 (by decide)]; exact propext ⟨fun z => ⟨z.1.2, z.2⟩, fun z => ⟨⟨rfl, z.1⟩, z.2⟩⟩
theorem az_Ru21 {i : Int} {x : Int32} : az_uh (az_RH r S f, z) (r + 19) (az_cw S 19 i x) = (az_RH r (az_up S 21 i x.toInt) f, z) := Prod.ext (az_RH_upI 19 (by decide) (by decide) (by decide)) rfl
theorem az_Rf22 {K : Value → Prop} : az_mf (az_RH r S f r) 11 22 K = K (.ref (r + 20)) := by rw [az_RH_0]; rfl
theorem az_Rr22 {i : Int} {K : Int32 → Prop} : az_mr (az_RH r S f (r + 20)) 0 i K = ((0 ≤ i ∧ i < 12) ∧ K (Int32.ofInt (S 22 i))) := by rw [az_RH_at 20 (by decide)]; exact propext ⟨fun z => ⟨z.1.2, z.2⟩, fun z => ⟨⟨rfl, z.1⟩, z.2⟩⟩
theorem az_Rw22 {i : Int} {x : Int32} {K : az_C → Prop} : az_mw' (az_RH r S f (r + 20)) i x K = ((0 ≤ i ∧ i < 12) ∧ K (az_cw S 20 i x)) := by rw [az_RH_at 20 (by decide)]; exact propext ⟨fun z => ⟨z.1.2, z.2⟩, fun z => ⟨⟨rfl, z.1⟩, z.2⟩⟩
theorem az_Ru22 {i : Int} {x : Int32} : az_uh (az_RH r S f, z) (r + 20) (az_cw S 20 i x) = (az_RH r (az_up S 22 i x.toInt) f, z) := Prod.ext (az_RH_upI 20 (by decide) (by decide) (by decide)) rfl
theorem az_Rf23 {K : Value → Prop} : az_mf (az_RH r S f r) 11 23 K = K (.ref (r + 21)) := by rw [az_RH_0]; rfl
theorem az_Rr23 {i : Int} {K : Int32 → Prop} : az_mr (az_RH r S f (r + 21)) 0 i K = ((0 ≤ i ∧ i < 12) ∧ K (Int32.ofInt (S 23 i))) := by rw [az_RH_at 21 (by decide)]; exact propext ⟨fun z => ⟨z.1.2, z.2⟩, fun z => ⟨⟨rfl, z.1⟩, z.2⟩⟩
theorem az_Rw23 {i : Int} {x : Int32} {K : az_C → Prop} : az_mw' (az_RH r S f (r + 21)) i x K = ((0 ≤ i ∧ i < 12) ∧ K (az_cw S 21 i x)) := by rw [az_RH_at 21 (by decide)]; exact propext ⟨fun z => ⟨z.1.2, z.2⟩, fun z => ⟨⟨rfl, z.1⟩, z.2⟩⟩
theorem az_Ru23 {i : Int} {x : Int32} : az_uh (az_RH r S f, z) (r + 21) (az_cw S 21 i x) = (az_RH r (az_up S 23 i x.toInt) f, z) := Prod.ext (az_RH_upI 21 (by decide) (by decide) (by decide)) rfl
theorem az_Rf24 {K : Value → Prop} : az_mf (az_RH r S f r) 11 24 K = K (.ref (r + 22)) := by rw [az_RH_0]; rfl
theorem az_Rr24 {i : Int} {K : Int64 → Prop} : az_mrl (az_RH r S f (r + 22)) i K = ((0 ≤ i ∧ i < 36) ∧ K (Int64.ofInt (S 24 i))) := by rw [az_RH_at 22 (by decide)]; rfl
theorem az_Rw24 {i : Int} {x : Int64} {K : az_C → Prop} : az_mwl (az_RH r S f (r + 22)) i x K = ((0 ≤ i ∧ i < 36) ∧ K (az_cv S 22 i x)) := by rw [az_RH_at 22 (by decide)]; rfl
theorem az_Ru24 {i : Int} {x : Int64} : az_uh (az_RH r S f, z) (r + 22) (az_cv S 22 i x) = (az_RH r (az_up S 24 i x.toInt) f, z) := Prod.ext (az_RH_upL 22 (by decide) (by decide) rfl) rfl
theorem az_Rf25 {K : Value → Prop} : az_mf (az_RH r S f r) 11 25 K = K (.ref (r + 23)) := by rw [az_RH_0]; rfl
theorem az_Rr25 {i : Int} {K : Int32 → Prop} : az_mr (az_RH r S f (r + 23)) 0 i K = ((0 ≤ i ∧ i < 36) ∧ K (Int32.ofInt (S 25 i))) := by rw [az_RH_at 23 (by decide)]; exact propext ⟨fun z => ⟨z.1.2, z.2⟩, fun z => ⟨⟨rfl, z.1⟩, z.2⟩⟩
theorem az_Rw25 {i : Int} {x : Int32} {K : az_C → Prop} : az_mw' (az_RH r S f (r + 23)) i x K = ((0 ≤ i ∧ i < 36) ∧ K (az_cw S 23 i x)) := by rw [az_RH_at 23 (by decide)]; exact propext ⟨fun z => ⟨z.1.2, z.2⟩, fun z => ⟨⟨rfl, z.1⟩, z.2⟩⟩
theorem az_Ru25 {i : Int} {x : Int32} : az_uh (az_RH r S f, z) (r + 23) (az_cw S 23 i x) = (az_RH r (az_up S 25 i x.toInt) f, z) := Prod.ext (az_RH_upI 23 (by decide) (by decide) (by decide)) rfl
theorem az_Rf26 {K : Value → Prop} : az_mf (az_RH r S f r) 11 26 K = K (.ref (r + 24)) := by rw [az_RH_0]; rfl
theorem az_Rr26 {i : Int} {K : Int32 → Prop} : az_mr (az_RH r S f (r + 24)) 0 i K = ((0 ≤ i ∧ i < 36) ∧ K (Int32.ofInt (S 26 i))) := by rw [az_RH_at 24 (by decide)]; exact propext ⟨fun z => ⟨z.1.2, z.2⟩, fun z => ⟨⟨rfl, z.1⟩, z.2⟩⟩
theorem az_Rw26 {i : Int} {x : Int32} {K : az_C → Prop} : az_mw' (az_RH r S f (r + 24)) i x K = ((0 ≤ i ∧ i < 36) ∧ K (az_cw S 24 i x)) := by rw [az_RH_at 24 (by decide)]; exact propext ⟨fun z => ⟨z.1.2, z.2⟩, fun z => ⟨⟨rfl, z.1⟩, z.2⟩⟩
theorem az_Ru26 {i : Int} {x : Int32} : az_uh (az_RH r S f, z) (r + 24) (az_cw S 24 i x) = (az_RH r (az_up S 26 i x.toInt) f, z) := Prod.ext (az_RH_upI 24 (by decide) (by decide) (by decide)) rfl
theorem az_Rf27 {K : Value → Prop} : az_mf (az_RH r S f r) 11 27 K = K (.ref (r + 25)) := by rw [az_RH_0]; rfl
theorem az_Rr27 {i : Int} {K : Int64 → Prop} : az_mrl (az_RH r S f (r + 25)) i K = ((0 ≤ i ∧ i < 120) ∧ K (Int64.ofInt (S 27 i))) := by rw [az_RH_at 25 (by decide)]; rfl
theorem az_Rw27 {i : Int} {x : Int64} {K : az_C → Prop} : az_mwl (az_RH r S f (r + 25)) i x K = ((0 ≤ i ∧ i < 120) ∧ K (az_cv S 25 i x)) := by rw [az_RH_at 25 (by decide)]; rfl
theorem az_Ru27 {i : Int} {x : Int64} : az_uh (az_RH r S f, z) (r + 25) (az_cv S 25 i x) = (az_RH r (az_up S 27 i x.toInt) f, z) := Prod.ext (az_RH_upL 25 (by decide) (by decide) rfl) rfl
theorem az_Rf28 {K : Value → Prop} : az_mf (az_RH r S f r) 11 28 K = K (.ref (r + 26)) := by rw [az_RH_0]; rfl
theorem az_Rr28 {i : Int} {K : Int32 → Prop} : az_mr (az_RH r S f (r + 26)) 0 i K = ((0 ≤ i ∧ i < 12) ∧ K (Int32.ofInt (S 28 i))) := by rw [az_RH_at 26 (by decide)]; exact propext ⟨fun z => ⟨z.1.2, z.2⟩, fun z => ⟨⟨rfl, z.1⟩, z.2⟩⟩
theorem az_Rw28 {i : Int} {x : Int32} {K : az_C → Prop} : az_mw' (az_RH r S f (r + 26)) i x K = ((0 ≤ i ∧ i < 12) ∧ K (az_cw S 26 i x)) := by rw [az_RH_at 26 (by decide)]; exact propext ⟨fun z => ⟨z.1.2, z.2⟩, fun z => ⟨⟨rfl, z.1⟩, z.2⟩⟩
theorem az_Ru28 {i : Int} {x : Int32} : az_uh (az_RH r S f, z) (r + 26) (az_cw S 26 i x) = (az_RH r (az_up S 28 i x.toInt) f, z) := Prod.ext (az_RH_upI 26 (by decide) (by decide) (by decide)) rfl
theorem az_Rf29 {K : Value → Prop} : az_mf (az_RH r S f r) 11 29 K = K (.ref (r + 27)) := by rw [az_RH_0]; rfl
theorem az_Rr29 {i : Int} {K : Int32 → Prop} : az_mr (az_RH r S f (r + 27)) 0 i K = ((0 ≤ i ∧ i < 12) ∧ K (Int32.ofInt (S 29 i))) := by rw [az_RH_at 27 (by decide)]; exact propext ⟨fun z => ⟨z.1.2, z.2⟩, fun z => ⟨⟨rfl, z.1⟩, z.2⟩⟩
theorem az_Rw29 {i : Int} {x : Int32} {K : az_C → Prop} : az_mw' (az_RH r S f (r + 27)) i x K = ((0 ≤ i ∧ i < 12) ∧ K (az_cw S 27 i x)) := by rw [az_RH_at 27 (by decide)]; exact propext ⟨fun z => ⟨z.1.2, z.2⟩, fun z => ⟨⟨rfl, z.1⟩, z.2⟩⟩
theorem az_Ru29 {i : Int} {x : Int32} : az_uh (az_RH r S f, z) (r + 27) (az_cw S 27 i x) = (az_RH r (az_up S 29 i x.toInt) f, z) := Prod.ext (az_RH_upI 27 (by decide) (by decide) (by decide)) rfl
theorem az_Rf30 {K : Value → Prop} : az_mf (az_RH r S f r) 11 30 K = K (.ref (r + 28)) := by rw [az_RH_0]; rfl
theorem az_Rr30 {i : Int} {K : Int32 → Prop} : az_mr (az_RH r S f (r + 28)) 0 i K = ((0 ≤ i ∧ i < 12) ∧ K (Int32.ofInt (S 30 i))) := by rw [az_RH_at 28 (by decide)]; exact propext ⟨fun z => ⟨z.1.2, z.2⟩, fun z => ⟨⟨rfl, z.1⟩, z.2⟩⟩
theorem az_Rw30 {i : Int} {x : Int32} {K : az_C → Prop} : az_mw' (az_RH r S f (r + 28)) i x K = ((0 ≤ i ∧ i < 12) ∧ K (az_cw S 28 i x)) := by rw [az_RH_at 28 (by decide)]; exact propext ⟨fun z => ⟨z.1.2, z.2⟩, fun z => ⟨⟨rfl, z.1⟩, z.2⟩⟩
theorem az_Ru30 {i : Int} {x : Int32} : az_uh (az_RH r S f, z) (r + 28) (az_cw S 28 i x) = (az_RH r (az_up S 30 i x.toInt) f, z) := Prod.ext (az_RH_upI 28 (by decide) (by decide) (by decide)) rfl
theorem az_Rf31 {K : Value → Prop} : az_mf (az_RH r S f r) 11 31 K = K (.ref (r + 29)) := by rw [az_RH_0]; rfl
theorem az_Rr31 {i : Int} {K : Int32 → Prop} : az_mr (az_RH r S f (r + 29)) 0 i K = ((0 ≤ i ∧ i < 12) ∧ K (Int32.ofInt (S 31 i))) := by rw [az_RH_at 29 (by decide)]; exact propext ⟨fun z => ⟨z.1.2, z.2⟩, fun z => ⟨⟨rfl, z.1⟩, z.2⟩⟩
theorem az_Rw31 {i : Int} {x : Int32} {K : az_C → Prop} : az_mw' (az_RH r S f (r + 29)) i x K = ((0 ≤ i ∧ i < 12) ∧ K (az_cw S 29 i x)) := by rw [az_RH_at 29 (by decide)]; exact propext ⟨fun z => ⟨z.1.2, z.2⟩, fun z => ⟨⟨rfl, z.1⟩, z.2⟩⟩
theorem az_Ru31 {i : Int} {x : Int32} : az_uh (az_RH r S f, z) (r + 29) (az_cw S 29 i x) = (az_RH r (az_up S 31 i x.toInt) f, z) := Prod.ext (az_RH_upI 29 (by decide) (by decide) (by decide)) rfl
theorem az_Rf32 {K : Value → Prop} : az_mf (az_RH r S f r) 11 32 K = K (.ref (r + 30)) := by rw [az_RH_0]; rfl
theorem az_Rr32 {i : Int} {K : Int32 → Prop} : az_mr (az_RH r S f (r + 30)) 0 i K = ((0 ≤ i ∧ i < 12) ∧ K (Int32.ofInt (S 32 i))) := by rw [az_RH_at 30 (by decide)]; exact propext ⟨fun z => ⟨z.1.2, z.2⟩, fun z => ⟨⟨rfl, z.1⟩, z.2⟩⟩
theorem az_Rw32 {i : Int} {x : Int32} {K : az_C → Prop} : az_mw' (az_RH r S f (r + 30)) i x K = ((0 ≤ i ∧ i < 12) ∧ K (az_cw S 30 i x)) := by rw [az_RH_at 30 (by decide)]; exact propext ⟨fun z => ⟨z.1.2, z.2⟩, fun z => ⟨⟨rfl, z.1⟩, z.2⟩⟩
theorem az_Ru32 {i : Int} {x : Int32} : az_uh (az_RH r S f, z) (r + 30) (az_cw S 30 i x) = (az_RH r (az_up S 32 i x.toInt) f, z) := Prod.ext (az_RH_upI 30 (by decide) (by decide) (by decide)) rfl
theorem az_Rf33 {K : Value → Prop} : az_mf (az_RH r S f r) 11 33 K = K (.int (Int32.ofInt (S 33 0))) := by rw [az_RH_0]; rfl
theorem az_Rw33 {x : Int32} {K : az_C → Prop} : az_mp (az_RH r S f r) 11 33 0 (.int x) K = K (az_ob 11 ((az_fR S r).set 33 (.int x))) := by rw [az_RH_0]; exact propext ⟨fun z => z.2, fun z => ⟨rfl, z⟩⟩
theorem az_Ru33 {x : Int32} : az_uh (az_RH r S f, z) r (az_ob 11 ((az_fR S r).set 33 (.int x))) = (az_RH r (az_up S 33 0 x.toInt) f, z) := by
  unfold az_uh
  refine Prod.ext ?_ rfl
  refine az_RH_set 0 (by decide) ?_ (fun o1 h2 h3 => ?_)
  · show az_ob 11 (az_fR (az_up S 33 0 x.toInt) r) = _
    unfold az_fR
    rw [az_up_ne (k1 := 0) (by decide), az_up_ne (k1 := 1) (by decide), az_up_ne (k1 := 2) (by decide), az_up_ne (k1 := 38) (by decide), az_up_ne (k1 := 43) (by decide), az_up_ne (k1 := 48) (by decide), az_up_ne (k1 := 49) (by decide), az_up_ne (k1 := 50) (by decide), az_up_ne (k1 := 51) (by decide), az_up_ne (k1 := 52) (by decide), az_up_at, if_pos rfl, Int32.ofInt_toInt]
    rfl
  · unfold az_cR
    rw [if_neg h3, if_neg h3, az_up_ne (show az_kR o1 ≠ 33 by revert o1; decide +kernel)]
theorem az_Rf34 {K : Value → Prop} : az_mf (az_RH r S f r) 11 34 K = K (.ref (r + 31)) := by rw [az_RH_0]; rfl
theorem az_Rr34 {i : Int} {K : Int64 → Prop} : az_mrl (az_RH r S f (r + 31)) i K = ((0 ≤ i ∧ i < 1500) ∧ K (Int64.ofInt (S 34 i))) := by rw [az_RH_at 31 (by decide)]; rfl
theorem az_Rw34 {i : Int} {x : Int64} {K : az_C → Prop} : az_mwl (az_RH r S f (r + 31)) i x K = ((0 ≤ i ∧ i < 1500) ∧ K (az_cv S 31 i x)) := by rw [az_RH_at 31 (by decide)]; rfl
theorem az_Ru34 {i : Int} {x : Int64} : az_uh (az_RH r S f, z) (r + 31) (az_cv S 31 i x) = (az_RH r (az_up S 34 i x.toInt) f, z) := Prod.ext (az_RH_upL 31 (by decide) (by decide) rfl) rfl
theorem az_Rf35 {K : Value → Prop} : az_mf (az_RH r S f r) 11 35 K = K (.ref (r + 32)) := by rw [az_RH_0]; rfl
theorem az_Rr35 {i : Int} {K : Int32 → Prop} : az_mr (az_RH r S f (r + 32)) 0 i K = ((0 ≤ i ∧ i < 1500) ∧ K (Int32.ofInt (S 35 i))) := by rw [az_RH_at 32 (by decide)]; exact propext ⟨fun z => ⟨z.1.2, z.2⟩, fun z => ⟨⟨rfl, z.1⟩, z.2⟩⟩
theorem az_Rw35 {i : Int} {x : Int32} {K : az_C → Prop} : az_mw' (az_RH r S f (r + 32)) i x K = ((0 ≤ i ∧ i < 1500) ∧ K (az_cw S 32 i x)) := by rw [az_RH_at 32 (by decide)]; exact propext ⟨fun z => ⟨z.1.2, z.2⟩, fun z => ⟨⟨rfl, z.1⟩, z.2⟩⟩
theorem az_Ru35 {i : Int} {x : Int32} : az_uh (az_RH r S f, z) (r + 32) (az_cw S 32 i x) = (az_RH r (az_up S 35 i x.toInt) f, z) := Prod.ext (az_RH_upI 32 (by decide) (by decide) (by decide)) rfl
theorem az_Rf36 {K : Value → Prop} : az_mf (az_RH r S f r) 11 36 K = K (.ref (r + 33)) := by rw [az_RH_0]; rfl
theorem az_Rr36 {i : Int} {K : Int32 → Prop} : az_mr (az_RH r S f (r + 33)) 0 i K = ((0 ≤ i ∧ i < 1500) ∧ K (Int32.ofInt (S 36 i))) := by rw [az_RH_at 33 (by decide)]; exact propext ⟨fun z => ⟨z.1.2, z.2⟩, fun z => ⟨⟨rfl, z.1⟩, z.2⟩⟩
theorem az_Rw36 {i : Int} {x : Int32} {K : az_C → Prop} : az_mw' (az_RH r S f (r + 33)) i x K = ((0 ≤ i ∧ i < 1500) ∧ K (az_cw S 33 i x)) := by rw [az_RH_at 33 (by decide)]; exact propext ⟨fun z => ⟨z.1.2, z.2⟩, fun z => ⟨⟨rfl, z.1⟩, z.2⟩⟩
theorem az_Ru36 {i : Int} {x : Int32} : az_uh (az_RH r S f, z) (r + 33) (az_cw S 33 i x) = (az_RH r (az_up S 36 i x.toInt) f, z) := Prod.ext (az_RH_upI 33 (by decide) (by decide) (by decide)) rfl
theorem az_Rf37 {K : Value → Prop} : az_mf (az_RH r S f r) 11 37 K = K (.ref (r + 34)) := by rw [az_RH_0]; rfl
theorem az_Rr37 {i : Int} {K : Int32 → Prop} : az_mr (az_RH r S f (r + 34)) 0 i K = ((0 ≤ i ∧ i < 6000) ∧ K (Int32.ofInt (S 37 i))) := by rw [az_RH_at 34 (by decide)]; exact propext ⟨fun z => ⟨z.1.2, z.2⟩, fun z => ⟨⟨rfl, z.1⟩, z.2⟩⟩
theorem az_Rw37 {i : Int} {x : Int32} {K : az_C → Prop} : az_mw' (az_RH r S f (r + 34)) i x K = ((0 ≤ i ∧ i < 6000) ∧ K (az_cw S 34 i x)) := by rw [az_RH_at 34 (by decide)]; exact propext ⟨fun z => ⟨z.1.2, z.2⟩, fun z => ⟨⟨rfl, z.1⟩, z.2⟩⟩
theorem az_Ru37 {i : Int} {x : Int32} : az_uh (az_RH r S f, z) (r + 34) (az_cw S 34 i x) = (az_RH r (az_up S 37 i x.toInt) f, z) := Prod.ext (az_RH_upI 34 (by decide) (by decide) (by decide)) rfl
theorem az_Rf38 {K : Value → Prop} : az_mf (az_RH r S f r) 11 38 K = K (.int (Int32.ofInt (S 38 0))) := by rw [az_RH_0]; rfl
theorem az_Rw38 {x : Int32} {K : az_C → Prop} : az_mp (az_RH r S f r) 11 38 0 (.int x) K = K (az_ob 11 ((az_fR S r).set 38 (.int x))) := by rw [az_RH_0]; exact propext ⟨fun z => z.2, fun z => ⟨rfl, z⟩⟩
theorem az_Ru38 {x : Int32} : az_uh (az_RH r S f, z) r (az_ob 11 ((az_fR S r).set 38 (.int x))) = (az_RH r (az_up S 38 0 x.toInt) f, z) := by
  unfold az_uh
  refine Prod.ext ?_ rfl
  refine az_RH_set 0 (by decide) ?_ (fun o1 h2 h3 => ?_)
  · show az_ob 11 (az_fR (az_up S 38 0 x.toInt) r) = _
    unfold az_fR
    rw [az_up_ne (k1 := 0) (by decide), az_up_ne (k1 := 1) (by decide), az_up_ne (k1 := 2) (by decide), az_up_ne (k1 := 33) (by decide), az_up_ne (k1 := 43) (by decide), az_up_ne (k1 := 48) (by decide), az_up_ne (k1 := 49) (by decide), az_up_ne (k1 := 50) (by decide), az_up_ne (k1 := 51) (by decide), az_up_ne (k1 := 52) (by decide), az_up_at, if_pos rfl, Int32.ofInt_toInt]
    rfl
  · unfold az_cR
    rw [if_neg h3, if_neg h3, az_up_ne (show az_kR o1 ≠ 38 by revert o1; decide +kernel)]
theorem az_Rf39 {K : Value → Prop} : az_mf (az_RH r S f r) 11 39 K = K (.ref (r + 35)) := by rw [az_RH_0]; rfl
theorem az_Rr39 {i : Int} {K : Int32 → Prop} : az_mr (az_RH r S f (r + 35)) 0 i K = ((0 ≤ i ∧ i < 40) ∧ K (Int32.ofInt (S 39 i))) := by rw [az_RH_at 35 (by decide)]; exact propext ⟨fun z => ⟨z.1.2, z.2⟩, fun z => ⟨⟨rfl, z.1⟩, z.2⟩⟩
theorem az_Rw39 {i : Int} {x : Int32} {K : az_C → Prop} : az_mw' (az_RH r S f (r + 35)) i x K = ((0 ≤ i ∧ i < 40) ∧ K (az_cw S 35 i x)) := by rw [az_RH_at 35 (by decide)]; exact propext ⟨fun z => ⟨z.1.2, z.2⟩, fun z => ⟨⟨rfl, z.1⟩, z.2⟩⟩
theorem az_Ru39 {i : Int} {x : Int32} : az_uh (az_RH r S f, z) (r + 35) (az_cw S 35 i x) = (az_RH r (az_up S 39 i x.toInt) f, z) := Prod.ext (az_RH_upI 35 (by decide) (by decide) (by decide)) rfl
theorem az_Rf40 {K : Value → Prop} : az_mf (az_RH r S f r) 11 40 K = K (.ref (r + 36)) := by rw [az_RH_0]; rfl
theorem az_Rr40 {i : Int} {K : Int32 → Prop} : az_mr (az_RH r S f (r + 36)) 0 i K = ((0 ≤ i ∧ i < 40) ∧ K (Int32.ofInt (S 40 i))) := by rw [az_RH_at 36 (by decide)]; exact propext ⟨fun z => ⟨z.1.2, z.2⟩, fun z => ⟨⟨rfl, z.1⟩, z.2⟩⟩
theorem az_Rw40 {i : Int} {x : Int32} {K : az_C → Prop} : az_mw' (az_RH r S f (r + 36)) i x K = ((0 ≤ i ∧ i < 40) ∧ K (az_cw S 36 i x)) := by rw [az_RH_at 36 (by decide)]; exact propext ⟨fun z => ⟨z.1.2, z.2⟩, fun z => ⟨⟨rfl, z.1⟩, z.2⟩⟩
theorem az_Ru40 {i : Int} {x : Int32} : az_uh (az_RH r S f, z) (r + 36) (az_cw S 36 i x) = (az_RH r (az_up S 40 i x.toInt) f, z) := Prod.ext (az_RH_upI 36 (by decide) (by decide) (by decide)) rfl
theorem az_Rf41 {K : Value → Prop} : az_mf (az_RH r S f r) 11 41 K = K (.ref (r + 37)) := by rw [az_RH_0]; rfl
theorem az_Rr41 {i : Int} {K : Int32 → Prop} : az_mr (az_RH r S f (r + 37)) 0 i K = ((0 ≤ i ∧ i < 40) ∧ K (Int32.ofInt (S 41 i))) := by rw [az_RH_at 37 (by decide)]; exact propext ⟨fun z => ⟨z.1.2, z.2⟩, fun z => ⟨⟨rfl, z.1⟩, z.2⟩⟩
theorem az_Rw41 {i : Int} {x : Int32} {K : az_C → Prop} : az_mw' (az_RH r S f (r + 37)) i x K = ((0 ≤ i ∧ i < 40) ∧ K (az_cw S 37 i x)) := by rw [az_RH_at 37 (by decide)]; exact propext ⟨fun z => ⟨z.1.2, z.2⟩, fun z => ⟨⟨rfl, z.1⟩, z.2⟩⟩
theorem az_Ru41 {i : Int} {x : Int32} : az_uh (az_RH r S f, z) (r + 37) (az_cw S 37 i x) = (az_RH r (az_up S 41 i x.toInt) f, z) := Prod.ext (az_RH_upI 37 (by decide) (by decide) (by decide)) rfl
theorem az_Rf42 {K : Value → Prop} : az_mf (az_RH r S f r) 11 42 K = K (.ref (r + 38)) := by rw [az_RH_0]; rfl
theorem az_Rr42 {i : Int} {K : Int32 → Prop} : az_mr (az_RH r S f (r + 38)) 1 i K = ((0 ≤ i ∧ i < 40) ∧ K (Int32.ofInt (S 42 i))) := by rw [az_RH_at 38 (by decide)]; exact propext ⟨fun z => ⟨z.1.2, z.2⟩, fun z => ⟨⟨rfl, z.1⟩, z.2⟩⟩
theorem az_Rw42 {i : Int} {x : Int32} {K : az_C → Prop} : az_mz (az_RH r S f (r + 38)) i x K = (((x = 0 ∨ x = 1) ∧ 0 ≤ i ∧ i < 40) ∧ K (az_cw S 38 i x)) := by rw [az_RH_at 38 (by decide)]; exact propext ⟨fun z => ⟨⟨z.1.1.2, z.1.2⟩, z.2⟩, fun z => ⟨⟨⟨rfl, z.1.1⟩, z.1.2⟩, z.2⟩⟩
theorem az_Ru42 {i : Int} {x : Int32} : az_uh (az_RH r S f, z) (r + 38) (az_cw S 38 i x) = (az_RH r (az_up S 42 i x.toInt) f, z) := Prod.ext (az_RH_upI 38 (by decide) (by decide) (by decide)) rfl
theorem az_Rf43 {K : Value → Prop} : az_mf (az_RH r S f r) 11 43 K = K (.int (Int32.ofInt (S 43 0))) := by rw [az_RH_0]; rfl
theorem az_Rw43 {x : Int32} {K : az_C → Prop} : az_mp (az_RH r S f r) 11 43 0 (.int x) K = K (az_ob 11 ((az_fR S r).set 43 (.int x))) := by rw [az_RH_0]; exact propext ⟨fun z => z.2, fun z => ⟨rfl, z⟩⟩
theorem az_Ru43 {x : Int32} : az_uh (az_RH r S f, z) r (az_ob 11 ((az_fR S r).set 43 (.int x))) = (az_RH r (az_up S 43 0 x.toInt) f, z) := by
  unfold az_uh
  refine Prod.ext ?_ rfl
  refine az_RH_set 0 (by decide) ?_ (fun o1 h2 h3 => ?_)
  · show az_ob 11 (az_fR (az_up S 43 0 x.toInt) r) = _
    unfold az_fR
    rw [az_up_ne (k1 := 0) (by decide), az_up_ne (k1 := 1) (by decide), az_up_ne (k1 := 2) (by decide), az_up_ne (k1 := 33) (by decide), az_up_ne (k1 := 38) (by decide), az_up_ne (k1 := 48) (by decide), az_up_ne (k1 := 49) (by decide), az_up_ne (k1 := 50) (by decide), az_up_ne (k1 := 51) (by decide), az_up_ne (k1 := 52) (by decide), az_up_at, if_pos rfl, Int32.ofInt_toInt]
    rfl
  · unfold az_cR
    rw [if_neg h3, if_neg h3, az_up_ne (show az_kR o1 ≠ 43 by revert o1; decide +kernel)]
theorem az_Rf44 {K : Value → Prop} : az_mf (az_RH r S f r) 11 44 K = K (.ref (r + 39)) := by rw [az_RH_0]; rfl
theorem az_Rr44 {i : Int} {K : Int32 → Prop} : az_mr (az_RH r S f (r + 39)) 0 i K = ((0 ≤ i ∧ i < 1600) ∧ K (Int32.ofInt (S 44 i))) := by rw [az_RH_at 39 (by decide)]; exact propext ⟨fun z => ⟨z.1.2, z.2⟩, fun z => ⟨⟨rfl, z.1⟩, z.2⟩⟩
theorem az_Rw44 {i : Int} {x : Int32} {K : az_C → Prop} : az_mw' (az_RH r S f (r + 39)) i x K = ((0 ≤ i ∧ i < 1600) ∧ K (az_cw S 39 i x)) := by rw [az_RH_at 39 (by decide)]; exact propext ⟨fun z => ⟨z.1.2, z.2⟩, fun z => ⟨⟨rfl, z.1⟩, z.2⟩⟩
theorem az_Ru44 {i : Int} {x : Int32} : az_uh (az_RH r S f, z) (r + 39) (az_cw S 39 i x) = (az_RH r (az_up S 44 i x.toInt) f, z) := Prod.ext (az_RH_upI 39 (by decide) (by decide) (by decide)) rfl
theorem az_Rf45 {K : Value → Prop} : az_mf (az_RH r S f r) 11 45 K = K (.ref (r + 40)) := by rw [az_RH_0]; rfl
theorem az_Rr45 {i : Int} {K : Int32 → Prop} : az_mr (az_RH r S f (r + 40)) 0 i K = ((0 ≤ i ∧ i < 1600) ∧ K (Int32.ofInt (S 45 i))) := by rw [az_RH_at 40 (by decide)]; exact propext ⟨fun z => ⟨z.1.2, z.2⟩, fun z => ⟨⟨rfl, z.1⟩, z.2⟩⟩
theorem az_Rw45 {i : Int} {x : Int32} {K : az_C → Prop} : az_mw' (az_RH r S f (r + 40)) i x K = ((0 ≤ i ∧ i < 1600) ∧ K (az_cw S 40 i x)) := by rw [az_RH_at 40 (by decide)]; exact propext ⟨fun z => ⟨z.1.2, z.2⟩, fun z => ⟨⟨rfl, z.1⟩, z.2⟩⟩
theorem az_Ru45 {i : Int} {x : Int32} : az_uh (az_RH r S f, z) (r + 40) (az_cw S 40 i x) = (az_RH r (az_up S 45 i x.toInt) f, z) := Prod.ext (az_RH_upI 40 (by decide) (by decide) (by decide)) rfl
theorem az_Rf46 {K : Value → Prop} : az_mf (az_RH r S f r) 11 46 K = K (.ref (r + 41)) := by rw [az_RH_0]; rfl
theorem az_Rr46 {i : Int} {K : Int32 → Prop} : az_mr (az_RH r S f (r + 41)) 0 i K = ((0 ≤ i ∧ i < 1600) ∧ K (Int32.ofInt (S 46 i))) := by rw [az_RH_at 41 (by decide)]; exact propext ⟨fun z => ⟨z.1.2, z.2⟩, fun z => ⟨⟨rfl, z.1⟩, z.2⟩⟩
theorem az_Rw46 {i : Int} {x : Int32} {K : az_C → Prop} : az_mw' (az_RH r S f (r + 41)) i x K = ((0 ≤ i ∧ i < 1600) ∧ K (az_cw S 41 i x)) := by rw [az_RH_at 41 (by decide)]; exact propext ⟨fun z => ⟨z.1.2, z.2⟩, fun z => ⟨⟨rfl, z.1⟩, z.2⟩⟩
theorem az_Ru46 {i : Int} {x : Int32} : az_uh (az_RH r S f, z) (r + 41) (az_cw S 41 i x) = (az_RH r (az_up S 46 i x.toInt) f, z) := Prod.ext (az_RH_upI 41 (by decide) (by decide) (by decide)) rfl
theorem az_Rf47 {K : Value → Prop} : az_mf (az_RH r S f r) 11 47 K = K (.ref (r + 42)) := by rw [az_RH_0]; rfl
theorem az_Rr47 {i : Int} {K : Int32 → Prop} : az_mr (az_RH r S f (r + 42)) 0 i K = ((0 ≤ i ∧ i < 1600) ∧ K (Int32.ofInt (S 47 i))) := by rw [az_RH_at 42 (by decide)]; exact propext ⟨fun z => ⟨z.1.2, z.2⟩, fun z => ⟨⟨rfl, z.1⟩, z.2⟩⟩
theorem az_Rw47 {i : Int} {x : Int32} {K : az_C → Prop} : az_mw' (az_RH r S f (r + 42)) i x K = ((0 ≤ i ∧ i < 1600) ∧ K (az_cw S 42 i x)) := by rw [az_RH_at 42 (by decide)]; exact propext ⟨fun z => ⟨z.1.2, z.2⟩, fun z => ⟨⟨rfl, z.1⟩, z.2⟩⟩
theorem az_Ru47 {i : Int} {x : Int32} : az_uh (az_RH r S f, z) (r + 42) (az_cw S 42 i x) = (az_RH r (az_up S 47 i x.toInt) f, z) := Prod.ext (az_RH_upI 42 (by decide) (by decide) (by decide)) rfl
theorem az_Rf48 {K : Value → Prop} : az_mf (az_RH r S f r) 11 48 K = K (.long (Int64.ofInt (S 48 0))) := by rw [az_RH_0]; rfl
theorem az_Rw48 {x : Int64} {K : az_C → Prop} : az_mp (az_RH r S f r) 11 48 1 (.long x) K = K (az_ob 11 ((az_fR S r).set 48 (.long x))) := by rw [az_RH_0]; exact propext ⟨fun z => z.2, fun z => ⟨rfl, z⟩⟩
theorem az_Ru48 {x : Int64} : az_uh (az_RH r S f, z) r (az_ob 11 ((az_fR S r).set 48 (.long x))) = (az_RH r (az_up S 48 0 x.toInt) f, z) := by
  unfold az_uh
  refine Prod.ext ?_ rfl
  refine az_RH_set 0 (by decide) ?_ (fun o1 h2 h3 => ?_)
  · show az_ob 11 (az_fR (az_up S 48 0 x.toInt) r) = _
    unfold az_fR
    rw [az_up_ne (k1 := 0) (by decide), az_up_ne (k1 := 1) (by decide), az_up_ne (k1 := 2) (by decide), az_up_ne (k1 := 33) (by decide), az_up_ne (k1 := 38) (by decide), az_up_ne (k1 := 43) (by decide), az_up_ne (k1 := 49) (by decide), az_up_ne (k1 := 50) (by decide), az_up_ne (k1 := 51) (by decide), az_up_ne (k1 := 52) (by decide), az_up_at, if_pos rfl, Int64.ofInt_toInt]
    rfl
  · unfold az_cR
    rw [if_neg h3, if_neg h3, az_up_ne (show az_kR o1 ≠ 48 by revert o1; decide +kernel)]
theorem az_Rf49 {K : Value → Prop} : az_mf (az_RH r S f r) 11 49 K = K (.long (Int64.ofInt (S 49 0))) := by rw [az_RH_0]; rfl
theorem az_Rw49 {x : Int64} {K : az_C → Prop} : az_mp (az_RH r S f r) 11 49 1 (.long x) K = K (az_ob 11 ((az_fR S r).set 49 (.long x))) := by rw [az_RH_0]; exact propext ⟨fun z => z.2, fun z => ⟨rfl, z⟩⟩
theorem az_Ru49 {x : Int64} : az_uh (az_RH r S f, z) r (az_ob 11 ((az_fR S r).set 49 (.long x))) = (az_RH r (az_up S 49 0 x.toInt) f, z) := by
  unfold az_uh
  refine Prod.ext ?_ rfl
  refine az_RH_set 0 (by decide) ?_ (fun o1 h2 h3 => ?_)
  · show az_ob 11 (az_fR (az_up S 49 0 x.toInt) r) = _
    unfold az_fR
    rw [az_up_ne (k1 := 0) (by decide), az_up_ne (k1 := 1) (by decide), az_up_ne (k1 := 2) (by decide), az_up_ne (k1 := 33) (by decide), az_up_ne (k1 := 38) (by decide), az_up_ne (k1 := 43) (by decide), az_up_ne (k1 := 48) (by decide), az_up_ne (k1 := 50) (by decide), az_up_ne (k1 := 51) (by decide), az_up_ne (k1 := 52) (by decide), az_up_at, if_pos rfl, Int64.ofInt_toInt]
    rfl
  · unfold az_cR
    rw [if_neg h3, if_neg h3, az_up_ne (show az_kR o1 ≠ 49 by revert o1; decide +kernel)]
theorem az_Rf50 {K : Value → Prop} : az_mf (az_RH r S f r) 11 50 K = K (.long (Int64.ofInt (S 50 0))) := by rw [az_RH_0]; rfl
theorem az_Rw50 {x : Int64} {K : az_C → Prop} : az_mp (az_RH r S f r) 11 50 1 (.long x) K = K (az_ob 11 ((az_fR S r).set 50 (.long x))) := by rw [az_RH_0]; exact propext ⟨fun z => z.2, fun z => ⟨rfl, z⟩⟩
theorem az_Ru50 {x : Int64} : az_uh (az_RH r S f, z) r (az_ob 11 ((az_fR S r).set 50 (.long x))) = (az_RH r (az_up S 50 0 x.toInt) f, z) := by
  unfold az_uh
  refine Prod.ext ?_ rfl
  refine az_RH_set 0 (by decide) ?_ (fun o1 h2 h3 => ?_)
  · show az_ob 11 (az_fR (az_up S 50 0 x.toInt) r) = _
    unfold az_fR
    rw [az_up_ne (k1 := 0) (by decide), az_up_ne (k1 := 1) (by decide), az_up_ne (k1 := 2) (by decide), az_up_ne (k1 := 33) (by decide), az_up_ne (k1 := 38) (by decide), az_up_ne (k1 := 43) (by decide), az_up_ne (k1 := 48) (by decide), az_up_ne (k1 := 49) (by decide), az_up_ne (k1 := 51) (by decide), az_up_ne (k1 := 52) (by decide), az_up_at, if_pos rfl, Int64.ofInt_toInt]
    rfl
  · unfold az_cR
    rw [if_neg h3, if_neg h3, az_up_ne (show az_kR o1 ≠ 50 by revert o1; decide +kernel)]
theorem az_Rf51 {K : Value → Prop} : az_mf (az_RH r S f r) 11 51 K = K (.long (Int64.ofInt (S 51 0))) := by rw [az_RH_0]; rfl
theorem az_Rw51 {x : Int64} {K : az_C → Prop} : az_mp (az_RH r S f r) 11 51 1 (.long x) K = K (az_ob 11 ((az_fR S r).set 51 (.long x))) := by rw [az_RH_0]; exact propext ⟨fun z => z.2, fun z => ⟨rfl, z⟩⟩
theorem az_Ru51 {x : Int64} : az_uh (az_RH r S f, z) r (az_ob 11 ((az_fR S r).set 51 (.long x))) = (az_RH r (az_up S 51 0 x.toInt) f, z) := by
  unfold az_uh
  refine Prod.ext ?_ rfl
  refine az_RH_set 0 (by decide) ?_ (fun o1 h2 h3 => ?_)
  · show az_ob 11 (az_fR (az_up S 51 0 x.toInt) r) = _
    unfold az_fR
    rw [az_up_ne (k1 := 0) (by decide), az_up_ne (k1 := 1) (by decide), az_up_ne (k1 := 2) (by decide), az_up_ne (k1 := 33) (by decide), az_up_ne (k1 := 38) (by decide), az_up_ne (k1 := 43) (by decide), az_up_ne (k1 := 48) (by decide), az_up_ne (k1 := 49) (by decide), az_up_ne (k1 := 50) (by decide), az_up_ne (k1 := 52) (by decide), az_up_at, if_pos rfl, Int64.ofInt_toInt]
    rfl
  · unfold az_cR
    rw [if_neg h3, if_neg h3, az_up_ne (show az_kR o1 ≠ 51 by revert o1; decide +kernel)]
theorem az_Rf52 {K : Value → Prop} : az_mf (az_RH r S f r) 11 52 K = K (.long (Int64.ofInt (S 52 0))) := by rw [az_RH_0]; rfl
theorem az_Rw52 {x : Int64} {K : az_C → Prop} : az_mp (az_RH r S f r) 11 52 1 (.long x) K = K (az_ob 11 ((az_fR S r).set 52 (.long x))) := by rw [az_RH_0]; exact propext ⟨fun z => z.2, fun z => ⟨rfl, z⟩⟩
theorem az_Ru52 {x : Int64} : az_uh (az_RH r S f, z) r (az_ob 11 ((az_fR S r).set 52 (.long x))) = (az_RH r (az_up S 52 0 x.toInt) f, z) := by
  unfold az_uh
  refine Prod.ext ?_ rfl
  refine az_RH_set 0 (by decide) ?_ (fun o1 h2 h3 => ?_)
  · show az_ob 11 (az_fR (az_up S 52 0 x.toInt) r) = _
    unfold az_fR
    rw [az_up_ne (k1 := 0) (by decide), az_up_ne (k1 := 1) (by decide), az_up_ne (k1 := 2) (by decide), az_up_ne (k1 := 33) (by decide), az_up_ne (k1 := 38) (by decide), az_up_ne (k1 := 43) (by decide), az_up_ne (k1 := 48) (by decide), az_up_ne (k1 := 49) (by decide), az_up_ne (k1 := 50) (by decide), az_up_ne (k1 := 51) (by decide), az_up_at, if_pos rfl, Int64.ofInt_toInt]
    rfl
  · unfold az_cR
    rw [if_neg h3, if_neg h3, az_up_ne (show az_kR o1 ≠ 52 by revert o1; decide +kernel)]
theorem az_Rf53 {K : Value → Prop} : az_mf (az_RH r S f r) 11 53 K = K (.ref (r + 43)) := by rw [az_RH_0]; rfl
theorem az_Rr53 {i : Int} {K : Int32 → Prop} : az_mr (az_RH r S f (r + 43)) 0 i K = ((0 ≤ i ∧ i < 10) ∧ K (Int32.ofInt (S 53 i))) := by rw [az_RH_at 43 (by decide)]; exact propext ⟨fun z => ⟨z.1.2, z.2⟩, fun z => ⟨⟨rfl, z.1⟩, z.2⟩⟩
theorem az_Rw53 {i : Int} {x : Int32} {K : az_C → Prop} : az_mw' (az_RH r S f (r + 43)) i x K = ((0 ≤ i ∧ i < 10) ∧ K (az_cw S 43 i x)) := by rw [az_RH_at 43 (by decide)]; exact propext ⟨fun z => ⟨z.1.2, z.2⟩, fun z => ⟨⟨rfl, z.1⟩, z.2⟩⟩
theorem az_Ru53 {i : Int} {x : Int32} : az_uh (az_RH r S f, z) (r + 43) (az_cw S 43 i x) = (az_RH r (az_up S 53 i x.toInt) f, z) := Prod.ext (az_RH_upI 43 (by decide) (by decide) (by decide)) rfl
theorem az_Rf54 {K : Value → Prop} : az_mf (az_RH r S f r) 11 54 K = K (.ref (r + 44)) := by rw [az_RH_0]; rfl
theorem az_Rr54 {i : Int} {K : Int32 → Prop} : az_mr (az_RH r S f (r + 44)) 0 i K = ((0 ≤ i ∧ i < 12) ∧ K (Int32.ofInt (S 54 i))) := by rw [az_RH_at 44 (by decide)]; exact propext ⟨fun z => ⟨z.1.2, z.2⟩, fun z => ⟨⟨rfl, z.1⟩, z.2⟩⟩
theorem az_Rw54 {i : Int} {x : Int32} {K : az_C → Prop} : az_mw' (az_RH r S f (r + 44)) i x K = ((0 ≤ i ∧ i < 12) ∧ K (az_cw S 44 i x)) := by rw [az_RH_at 44 (by decide)]; exact propext ⟨fun z => ⟨z.1.2, z.2⟩, fun z => ⟨⟨rfl, z.1⟩, z.2⟩⟩
theorem az_Ru54 {i : Int} {x : Int32} : az_uh (az_RH r S f, z) (r + 44) (az_cw S 44 i x) = (az_RH r (az_up S 54 i x.toInt) f, z) := Prod.ext (az_RH_upI 44 (by decide) (by decide) (by decide)) rfl
theorem az_Ris : az_isob (az_RH r S f r) 11 = true := by rw [az_RH_0]; rfl
end AzRef
