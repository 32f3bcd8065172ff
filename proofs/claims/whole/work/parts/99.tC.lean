-- deps: 30.mK 31.mL 32.mM 34.mN 37.mQ 38.mR 39.mS 40.mT 41.mU 42.mV 43.cls 44.sta 44.stb 44.stc 44.std 45.cA 46.cB 47.cC 48.cD 49.cE 50.cF 54.cI 55.cJ 58.cM 59.cN 43.raw 51.cG 53.cH 56.cK 57.cL 52.cG2 60.cO 61.cP 62.cQ 64.iA 65.iB 66.iC 67.iD 68.iE 69.iF 70.iG 34.mN2 34.mN3 35.mO 36.mP 33.mM2 99.sA 99.sB 99.tA 99.tB
/-! ===== one relation for all calls ===== -/
section LwC
variable {r : Nat} {G G' : cz_G} {S S' : az_M} {f f' : Nat → az_C} {z z' : Nat × Nat} {a c : Int} {F F' : Nat}
theorem az_RH_abs (h : ∀ x, r ≤ x → x < r + 45 → f' x = az_cR S r (x - r)) : az_RH r S f' = f' := by
  funext x
  unfold az_RH
  split
  · rename_i q
    exact (h x q.1 q.2).symm
  · rfl
/-- what holds between the calls -/
def LI (r : Nat) (S : az_M) (G : cz_G) (z : Nat × Nat) (a c : Int) (F : Nat) : Prop := (∃ loc D, Inv S loc D F) ∧ (cz_W G S) ∧ (S 0 0 = 0 → cz_V G) ∧ (cz_Fr G z) ∧ (rz G z a c) ∧ (∀ x, r ≤ x → x < r + 45 → G.cd x = 0) ∧ (r + 45 ≤ z.1)
theorem LI.iv {r : Nat} {S : az_M} {G : cz_G} {z : Nat × Nat} {a c : Int} {F : Nat} (h : LI r S G z a c F) : ∃ loc D, Inv S loc D F := h.1
theorem LI.w {r : Nat} {S : az_M} {G : cz_G} {z : Nat × Nat} {a c : Int} {F : Nat} (h : LI r S G z a c F) : cz_W G S := h.2.1
theorem LI.v {r : Nat} {S : az_M} {G : cz_G} {z : Nat × Nat} {a c : Int} {F : Nat} (h : LI r S G z a c F) : S 0 0 = 0 → cz_V G := h.2.2.1
theorem LI.fr {r : Nat} {S : az_M} {G : cz_G} {z : Nat × Nat} {a c : Int} {F : Nat} (h : LI r S G z a c F) : cz_Fr G z := h.2.2.2.1
theorem LI.ro {r : Nat} {S : az_M} {G : cz_G} {z : Nat × Nat} {a c : Int} {F : Nat} (h : LI r S G z a c F) : rz G z a c := h.2.2.2.2.1
theorem LI.re {r : Nat} {S : az_M} {G : cz_G} {z : Nat × Nat} {a c : Int} {F : Nat} (h : LI r S G z a c F) : ∀ x, r ≤ x → x < r + 45 → G.cd x = 0 := h.2.2.2.2.2.1
theorem LI.rl {r : Nat} {S : az_M} {G : cz_G} {z : Nat × Nat} {a c : Int} {F : Nat} (h : LI r S G z a c F) : r + 45 ≤ z.1 := h.2.2.2.2.2.2
/-- from ghost to ghost: what lies outside the class stays -/
def LX (G : cz_G) (f : Nat → az_C) (z : Nat × Nat) (G' : cz_G) (f' : Nat → az_C) (z' : Nat × Nat) : Prop := (G'.ad 1 = G.ad 1) ∧ (∀ x, x < z.1 → G.cd x = 0 → G'.cd x = 0 ∧ f' x = f x) ∧ (z.1 ≤ z'.1)
theorem LX.a1 {G : cz_G} {f : Nat → az_C} {z : Nat × Nat} {G' : cz_G} {f' : Nat → az_C} {z' : Nat × Nat} (h : LX G f z G' f' z') : G'.ad 1 = G.ad 1 := h.1
theorem LX.ou {G : cz_G} {f : Nat → az_C} {z : Nat × Nat} {G' : cz_G} {f' : Nat → az_C} {z' : Nat × Nat} (h : LX G f z G' f' z') : ∀ x, x < z.1 → G.cd x = 0 → G'.cd x = 0 ∧ f' x = f x := h.2.1
theorem LX.up {G : cz_G} {f : Nat → az_C} {z : Nat × Nat} {G' : cz_G} {f' : Nat → az_C} {z' : Nat × Nat} (h : LX G f z G' f' z') : z.1 ≤ z'.1 := h.2.2
theorem LX_rfl : LX G f z G f z := ⟨rfl, fun _ _ h => ⟨h, rfl⟩, Nat.le_refl _⟩
theorem LX_of_X (h : cz_X G f z G' f' z') : LX G f z G' f' z' := ⟨h.1 1 (by omega), h.2.2.2.2.1, h.2.2.2.2.2.2.2.1⟩
theorem LX_of_Y (h : cz_Y G z G' z') : LX G f z G' f z' := ⟨h.2.1 1 (by omega), fun x q w => ⟨by rw [h.1 x q]; exact w, rfl⟩, h.2.2.2⟩
theorem LI.next (h : LI r S G z a c F) (hx : LX G f z G' f' z') (iv : ∃ loc D, Inv S' loc D F') (w : cz_W G' S') (v : S' 0 0 = 0 → cz_V G') (fr : cz_Fr G' z') (ro : rz G' z' a c) : LI r S' G' z' a c F' := ⟨iv, w, v, fr, ro, fun x x1 x2 => (hx.ou x (by have := h.rl; omega) (h.re x x1 x2)).1, by have := h.rl; have := hx.up; omega⟩
/-- both programs' calls, one after the other, in one heap: the class first, or the reference first -/
theorem both_h (h : LI r S G z a c F) (hx : LX G (az_RH r S f) z G' f' z') : az_RH r S f' = f' := az_RH_abs (fun x x1 x2 => by
  rw [(hx.ou x (by have := h.rl; omega) (h.re x x1 x2)).2]
  unfold az_RH
  rw [if_pos ⟨x1, x2⟩])
end LwC
