-- deps: 34.mN 38.mR 43.cls 44.sta 44.stb 44.stc 44.std 45.cA 46.cB 47.cC 48.cD 51.cG 53.cH 54.cI 31.mL 32.mM 37.mQ
/-! ===== both in one heap; the room ===== -/
section LwA
variable {r : Nat} {G G' : cz_G} {S S' : az_M} {f f' : Nat → az_C} {z z' : Nat × Nat} {a b : Int}
theorem two_h (hd : ∀ a, r ≤ a → a < r + 45 → G.cd a = 0) : az_RH r S (cz_H G S' f) = cz_H G S' (az_RH r S f) := by
  funext x
  unfold az_RH cz_H
  show (if r ≤ x ∧ x < r + 45 then az_cR S r (x - r) else if G.cd x = 0 then f x else cz_c G S' (G.cd x)) = if G.cd x = 0 then (if r ≤ x ∧ x < r + 45 then az_cR S r (x - r) else f x) else cz_c G S' (G.cd x)
  by_cases c : r ≤ x ∧ x < r + 45
  · rw [if_pos c, if_pos (hd x c.1 c.2), if_pos c]
  · rw [if_neg c, if_neg c]
def nbG (G : cz_G) : Int := sp_sum (fun b => if G.tb b = true then 1 else 0) 16
def nsG (G : cz_G) : Int := sp_sum (fun s => if G.ts s = true then 1 else 0) 12
def rz (G : cz_G) (z : Nat × Nat) (a b : Int) : Prop := (z.1 : Int) = a + 2 * nbG G + 8 * nsG G + cz_k1 G.len ∧ (z.2 : Int) = b + 25 * nbG G + 48 * nsG G + cz_k2 G.len
theorem nbG_b : 0 ≤ nbG G ∧ nbG G ≤ 16 := by
  have := sp_sum_b (g := fun b => if G.tb b = true then 1 else 0) (B := 1) 16 (fun i _ _ => by
    show 0 ≤ (if G.tb i = true then (1 : Int) else 0) ∧ (if G.tb i = true then (1 : Int) else 0) ≤ 1
    split <;> omega)
  unfold nbG
  omega
theorem nsG_b : 0 ≤ nsG G ∧ nsG G ≤ 12 := by
  have := sp_sum_b (g := fun b => if G.ts b = true then 1 else 0) (B := 1) 12 (fun i _ _ => by
    show 0 ≤ (if G.ts i = true then (1 : Int) else 0) ∧ (if G.ts i = true then (1 : Int) else 0) ≤ 1
    split <;> omega)
  unfold nsG
  omega
theorem rz_X (h : rz G z a b) (hx : cz_X G f z G' f' z') : rz G' z' a b := by
  obtain ⟨x1, x2, x3, x4, x5, x6, x7, x8, x9, x10, x11⟩ := hx
  unfold rz nbG nsG at *
  rw [x2, x3]
  omega
end LwA
