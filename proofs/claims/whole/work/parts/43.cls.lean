-- deps:
/-! ===== THE CLASS: its cells out of a state S and a ghost G ===== -/
def cz_G : Type := Σ' (cd : Nat → Nat) (ad : Nat → Nat) (_ : Nat) (_ : Int → Bool) (_ : Int → Bool), ∀ c, 1 ≤ c → c < 23 → cd (ad c) = c ∧ ∀ a, cd a = c → a = ad c
def cz_G.cd (G : cz_G) : Nat → Nat := G.1
def cz_G.ad (G : cz_G) : Nat → Nat := G.2.1
def cz_G.len (G : cz_G) : Nat := G.2.2.1
def cz_G.tb (G : cz_G) : Int → Bool := G.2.2.2.1
def cz_G.ts (G : cz_G) : Int → Bool := G.2.2.2.2.1
theorem cz_G.hF (G : cz_G) : ∀ c, 1 ≤ c → c < 23 → G.cd (G.ad c) = c ∧ ∀ a, G.cd a = c → a = G.ad c := G.2.2.2.2.2
def cz_ok (G : cz_G) (c : Nat) : Prop := G.cd (G.ad c) = c ∧ ∀ a, G.cd a = c → a = G.ad c
def cz_ab (G : cz_G) (b : Int) : Nat := G.ad (32 + b.toNat)
def cz_aq (G : cz_G) (b : Int) : Nat := G.ad (48 + b.toNat)
def cz_as (G : cz_G) (s : Int) (j : Nat) : Nat := G.ad (64 + 8 * s.toNat + j)
def cz_B (G : cz_G) (b : Int) : Prop := (0 ≤ b ∧ b < 16) ∧ G.tb b = true ∧ cz_ok G (32 + b.toNat) ∧ cz_ok G (48 + b.toNat)
def cz_S (G : cz_G) (s : Int) : Prop := (0 ≤ s ∧ s < 12) ∧ G.ts s = true ∧ ∀ j, j < 8 → cz_ok G (64 + 8 * s.toNat + j)
def cz_f1 (G : cz_G) (S : az_M) : List Value := [.ref (G.ad 2), .ref (G.ad 5), .ref (G.ad 10), .ref (G.ad 13), .ref (G.ad 17), .ref (G.ad 19), .int (Int32.ofInt (S 0 0)), .int (Int32.ofInt (S 1 0))]
def cz_f2 (G : cz_G) (S : az_M) : List Value := [.ref (G.ad 3), .ref (G.ad 4), .int (Int32.ofInt (S 100 0))]
def cz_f5 (G : cz_G) (S : az_M) : List Value := [.int (Int32.ofInt (S 33 0)), .ref (G.ad 6), .ref (G.ad 7), .ref (G.ad 8), .ref (G.ad 9)]
def cz_f10 (G : cz_G) (S : az_M) : List Value := [.long (Int64.ofInt (S 48 0)), .long (Int64.ofInt (S 49 0)), .long (Int64.ofInt (S 50 0)), .long (Int64.ofInt (S 51 0)), .long (Int64.ofInt (S 52 0)), .ref (G.ad 11), .int (Int32.ofInt (S 43 0)), .ref (G.ad 12)]
def cz_f13 (G : cz_G) (S : az_M) : List Value := [.ref (G.ad 14), .ref (G.ad 15), .ref (G.ad 16), .int (Int32.ofInt (S 38 0)), .int (Int32.ofInt (S 102 0))]
def cz_f17 (G : cz_G) (S : az_M) : List Value := [.ref (G.ad 2), .ref (G.ad 5), .ref (G.ad 10), .ref (G.ad 13), .ref (G.ad 18), .int (Int32.ofInt (S 2 0))]
def cz_f18 (G : cz_G) (S : az_M) : List Value := [.ref (G.ad 5), .ref (G.ad 10)]
def cz_f19 (G : cz_G) (S : az_M) : List Value := [.ref (G.ad 20), .ref (G.ad 21), .ref (G.ad 22), .int (Int32.ofInt (S 106 0))]
def cz_fB (G : cz_G) (S : az_M) (b : Int) : List Value := [.int (Int32.ofInt (S 3 b)), .ref (cz_aq G b), .int (Int32.ofInt (S 4 b)), .int (Int32.ofInt (S 6 b))]
def cz_fS (G : cz_G) (S : az_M) (s : Int) : List Value := [.int (Int32.ofInt s), .int (Int32.ofInt (S 8 s)), .int (Int32.ofInt (S 9 s)), .int (Int32.ofInt (S 10 s)), .ref (cz_as G s 1), .int (Int32.ofInt (S 11 s)), .ref (cz_as G s 2), .ref (cz_as G s 3), .int (Int32.ofInt (S 13 s)), .ref (cz_as G s 4), .int (Int32.ofInt (S 17 s)), .int (Int32.ofInt (S 18 s)), .int (Int32.ofInt (S 19 s)), .int (Int32.ofInt (S 28 s)), .int (Int32.ofInt (S 32 s)), .int (Int32.ofInt (S 29 s)), .int (Int32.ofInt (S 30 s)), .int (Int32.ofInt (S 31 s)), .ref (cz_as G s 5), .ref (cz_as G s 7)]
def cz_fL (G : cz_G) (S : az_M) (s : Int) : List Value := [.int (Int32.ofInt (S 21 s)), .int (Int32.ofInt (S 22 s)), .int (Int32.ofInt (S 108 s)), .ref (cz_as G s 6)]
def cz_ga (S : az_M) (k : Nat) : Int → Int32 := fun i => Int32.ofInt (S k i)
def cz_gr (S : az_M) (k n : Nat) (o : Int) : Int → Int32 := fun i => if 0 ≤ i ∧ i < n then Int32.ofInt (S k (o + i)) else 0
def cz_col (j : Int) : Nat := if j = 0 then 44 else if j = 1 then 45 else if j = 2 then 46 else if j = 3 then 47 else 101
def cz_g5 (S : az_M) : Int → Int32 := fun i => Int32.ofInt (S (cz_col (i % 5)) (i / 5))
def cz_bo (G : cz_G) : Int → Option Nat := fun i => if G.tb i = true then some (cz_ab G i) else none
def cz_so (G : cz_G) : Int → Option Nat := fun i => if G.ts i = true then some (cz_as G i 0) else none
def cz_cF (G : cz_G) (S : az_M) (c : Nat) : az_C := match c with
  | 1 => az_ob 10 (cz_f1 G S)
  | 2 => az_ob 2 (cz_f2 G S)
  | 3 => az_ra 0 16 (cz_bo G)
  | 4 => az_ra 1 12 (cz_so G)
  | 5 => az_ob 5 (cz_f5 G S)
  | 6 => az_ia 0 (1 * G.len) (cz_gr S 34 (1 * G.len) 0)
  | 7 => az_ia 0 (1 * G.len) (cz_gr S 35 (1 * G.len) 0)
  | 8 => az_ia 0 (1 * G.len) (cz_gr S 36 (1 * G.len) 0)
  | 9 => az_ia 0 (4 * G.len) (cz_gr S 37 (4 * G.len) 0)
  | 10 => az_ob 3 (cz_f10 G S)
  | 11 => az_ia 0 10 (cz_ga S 53)
  | 12 => az_ia 0 400 (cz_g5 S)
  | 13 => az_ob 1 (cz_f13 G S)
  | 14 => az_ia 0 40 (cz_ga S 39)
  | 15 => az_ia 0 40 (cz_ga S 40)
  | 16 => az_ia 0 40 (cz_ga S 41)
  | 17 => az_ob 7 (cz_f17 G S)
  | 18 => az_ob 9 (cz_f18 G S)
  | 19 => az_ob 6 (cz_f19 G S)
  | 20 => az_ia 0 12 (cz_ga S 103)
  | 21 => az_ia 0 12 (cz_ga S 104)
  | 22 => az_ia 0 12 (cz_ga S 105)
  | _ => az_ob 99 []
def cz_cS (G : cz_G) (S : az_M) (s : Int) (j : Nat) : az_C := match j with
  | 0 => az_ob 8 (cz_fS G S s)
  | 5 => az_ob 4 (cz_fL G S s)
  | 1 => az_ia 0 2 (cz_gr S 12 2 (2 * s))
  | 2 => az_ia 0 3 (cz_gr S 14 3 (3 * s))
  | 3 => az_ia 0 3 (cz_gr S 15 3 (3 * s))
  | 4 => az_ia 0 3 (cz_gr S 16 3 (3 * s))
  | 6 => az_ia 0 3 (cz_gr S 109 3 (3 * s))
  | 7 => az_ia 0 10 (cz_gr S 27 10 (10 * s))
  | _ => az_ob 99 []
def cz_c (G : cz_G) (S : az_M) (c : Nat) : az_C := if c < 32 then cz_cF G S c else if c < 48 then az_ob 0 (cz_fB G S ((c - 32 : Nat) : Int)) else if c < 64 then az_ia 0 21 (cz_gr S 5 21 (40 * ((c - 48 : Nat) : Int))) else cz_cS G S (((c - 64) / 8 : Nat) : Int) ((c - 64) % 8)
def cz_H (G : cz_G) (S : az_M) (f : Nat → az_C) : Nat → az_C := fun a => if G.cd a = 0 then f a else cz_c G S (G.cd a)
def cz_ow (k : Nat) (i : Int) : Nat := match k with
  | 0 => 1
  | 1 => 1
  | 2 => 17
  | 3 => 32 + i.toNat
  | 4 => 32 + i.toNat
  | 5 => 48 + (i / 40).toNat
  | 6 => 32 + i.toNat
  | 8 => 64 + 8 * i.toNat
  | 9 => 64 + 8 * i.toNat
  | 10 => 64 + 8 * i.toNat
  | 11 => 64 + 8 * i.toNat
  | 12 => 64 + 8 * (i / 2).toNat + 1
  | 13 => 64 + 8 * i.toNat
  | 14 => 64 + 8 * (i / 3).toNat + 2
  | 15 => 64 + 8 * (i / 3).toNat + 3
  | 16 => 64 + 8 * (i / 3).toNat + 4
  | 17 => 64 + 8 * i.toNat
  | 18 => 64 + 8 * i.toNat
  | 19 => 64 + 8 * i.toNat
  | 21 => 64 + 8 * i.toNat + 5
  | 22 => 64 + 8 * i.toNat + 5
  | 27 => 64 + 8 * (i / 10).toNat + 7
  | 28 => 64 + 8 * i.toNat
  | 29 => 64 + 8 * i.toNat
  | 30 => 64 + 8 * i.toNat
  | 31 => 64 + 8 * i.toNat
  | 32 => 64 + 8 * i.toNat
  | 33 => 5
  | 34 => 6
  | 35 => 7
  | 36 => 8
  | 37 => 9
  | 38 => 13
  | 39 => 14
  | 40 => 15
  | 41 => 16
  | 43 => 10
  | 44 => 12
  | 45 => 12
  | 46 => 12
  | 47 => 12
  | 48 => 10
  | 49 => 10
  | 50 => 10
  | 51 => 10
  | 52 => 10
  | 53 => 11
  | 100 => 2
  | 101 => 12
  | 102 => 13
  | 103 => 20
  | 104 => 21
  | 105 => 22
  | 106 => 19
  | 108 => 64 + 8 * i.toNat + 5
  | 109 => 64 + 8 * (i / 3).toNat + 6
  | _ => 0
theorem cz_gr_cg {S S1 : az_M} {k n : Nat} {o : Int} (h : ∀ i, o ≤ i → i < o + n → S k i = S1 k i) : cz_gr S k n o = cz_gr S1 k n o := by
  funext i
  unfold cz_gr
  split
  · rw [h _ (by omega) (by omega)]
  · rfl
theorem cz_ga_cg {S S1 : az_M} {k : Nat} (h : ∀ i, S k i = S1 k i) : cz_ga S k = cz_ga S1 k := by
  funext i
  unfold cz_ga
  rw [h]
theorem cz_cF_cg {G : cz_G} {S S1 : az_M} {c : Nat} (h : ∀ k i, cz_ow k i = c → S k i = S1 k i) : cz_cF G S c = cz_cF G S1 c := by
  unfold cz_cF
  split
  · unfold cz_f1
    rw [h 0 0 rfl, h 1 0 rfl]
  · unfold cz_f2
    rw [h 100 0 rfl]
  · rfl
  · rfl
  · unfold cz_f5
    rw [h 33 0 rfl]
  · rw [cz_gr_cg (fun i _ _ => h 34 i rfl)]
  · rw [cz_gr_cg (fun i _ _ => h 35 i rfl)]
  · rw [cz_gr_cg (fun i _ _ => h 36 i rfl)]
  · rw [cz_gr_cg (fun i _ _ => h 37 i rfl)]
  · unfold cz_f10
    rw [h 48 0 rfl, h 49 0 rfl, h 50 0 rfl, h 51 0 rfl, h 52 0 rfl, h 43 0 rfl]
  · rw [cz_ga_cg (fun i => h 53 i rfl)]
  · have e5 : cz_g5 S = cz_g5 S1 := by
      funext i
      unfold cz_g5
      have e : cz_ow (cz_col (i % 5)) (i / 5) = 12 := by
        unfold cz_col
        repeat (first | rfl | split)
      rw [h _ _ e]
    rw [e5]
  · unfold cz_f13
    rw [h 38 0 rfl, h 102 0 rfl]
  · rw [cz_ga_cg (fun i => h 39 i rfl)]
  · rw [cz_ga_cg (fun i => h 40 i rfl)]
  · rw [cz_ga_cg (fun i => h 41 i rfl)]
  · unfold cz_f17
    rw [h 2 0 rfl]
  · unfold cz_f18
    rfl
  · unfold cz_f19
    rw [h 106 0 rfl]
  · rw [cz_ga_cg (fun i => h 103 i rfl)]
  · rw [cz_ga_cg (fun i => h 104 i rfl)]
  · rw [cz_ga_cg (fun i => h 105 i rfl)]
  · rfl
theorem cz_cS_cg {G : cz_G} {S S1 : az_M} {s : Int} {j : Nat} (hs : 0 ≤ s) (h : ∀ k i, cz_ow k i = 64 + 8 * s.toNat + j → S k i = S1 k i) : cz_cS G S s j = cz_cS G S1 s j := by
  unfold cz_cS
  split
  · unfold cz_fS
    rw [h 8 s rfl, h 9 s rfl, h 10 s rfl, h 11 s rfl, h 13 s rfl, h 17 s rfl, h 18 s rfl, h 19 s rfl, h 28 s rfl, h 32 s rfl, h 29 s rfl, h 30 s rfl, h 31 s rfl]
  · unfold cz_fL
    rw [h 21 s rfl, h 22 s rfl, h 108 s rfl]
  · rw [cz_gr_cg (fun i h1 h2 => h 12 i (by show 64 + 8 * (i / 2).toNat + 1 = _; omega))]
  · rw [cz_gr_cg (fun i h1 h2 => h 14 i (by show 64 + 8 * (i / 3).toNat + 2 = _; omega))]
  · rw [cz_gr_cg (fun i h1 h2 => h 15 i (by show 64 + 8 * (i / 3).toNat + 3 = _; omega))]
  · rw [cz_gr_cg (fun i h1 h2 => h 16 i (by show 64 + 8 * (i / 3).toNat + 4 = _; omega))]
  · rw [cz_gr_cg (fun i h1 h2 => h 109 i (by show 64 + 8 * (i / 3).toNat + 6 = _; omega))]
  · rw [cz_gr_cg (fun i h1 h2 => h 27 i (by show 64 + 8 * (i / 10).toNat + 7 = _; omega))]
  · rfl
theorem cz_c_cg {G : cz_G} {S S1 : az_M} {c : Nat} (h : ∀ k i, cz_ow k i = c → S k i = S1 k i) : cz_c G S c = cz_c G S1 c := by
  unfold cz_c
  split
  · exact cz_cF_cg h
  · split
    · unfold cz_fB
      rw [h 3 _ (by show 32 + _ = _; omega), h 4 _ (by show 32 + _ = _; omega), h 6 _ (by show 32 + _ = _; omega)]
    · split
      · rw [cz_gr_cg (fun i h1 h2 => h 5 i (by show 48 + (i / 40).toNat = _; omega))]
      · refine cz_cS_cg (by omega) (fun k i e => h k i ?_)
        omega
theorem cz_H_cg {G : cz_G} {S S1 : az_M} {f : Nat → az_C} (h : ∀ k i, cz_ow k i ≠ 0 → S k i = S1 k i) : cz_H G S f = cz_H G S1 f := by
  funext a
  unfold cz_H
  split
  · rfl
  · rename_i ha
    exact cz_c_cg (fun k i e => h k i (by omega))
theorem cz_H_set {G : cz_G} {S S1 : az_M} {f : Nat → az_C} {x : az_C} {c : Nat} (h0 : c ≠ 0) (hc : cz_ok G c) (e : cz_c G S1 c = x) (hn : ∀ k i, cz_ow k i ≠ c → cz_ow k i ≠ 0 → S1 k i = S k i) : va_up (cz_H G S f) (G.ad c) x = cz_H G S1 f := by
  funext a
  unfold va_up cz_H
  by_cases ha : a = G.ad c
  · rw [if_pos ha, ha, hc.1, if_neg h0, e]
  · rw [if_neg ha]
    split
    · rfl
    · rename_i h1
      have : G.cd a ≠ c := fun q => ha (hc.2 a q)
      exact cz_c_cg (fun k i q => (hn k i (by omega) (by omega)).symm)
theorem cz_H_up {G : cz_G} {S : az_M} {f : Nat → az_C} {x : az_C} {c k : Nat} {i v : Int} (h0 : c ≠ 0) (hc : cz_ok G c) (ho : cz_ow k i = c) (e : cz_c G (az_up S k i v) c = x) : va_up (cz_H G S f) (G.ad c) x = cz_H G (az_up S k i v) f := by
  refine cz_H_set h0 hc e (fun k1 i1 q _ => ?_)
  unfold az_up
  split
  · rename_i e1
    split
    · rename_i e2
      rw [e1, e2] at q
      exact absurd ho q
    · rfl
  · rfl
theorem cz_H_at {G : cz_G} {S : az_M} {f : Nat → az_C} {c : Nat} (h0 : c ≠ 0) (hc : cz_ok G c) : cz_H G S f (G.ad c) = cz_c G S c := by
  unfold cz_H
  rw [hc.1, if_neg h0]
theorem cz_okF {G : cz_G} (c : Nat) (h1 : 1 ≤ c) (h2 : c < 23) : cz_ok G c := G.hF c h1 h2
theorem cz_c_B {G : cz_G} {S : az_M} {b : Int} (hb : 0 ≤ b ∧ b < 16) : cz_c G S (32 + b.toNat) = az_ob 0 (cz_fB G S b) := by
  unfold cz_c
  rw [if_neg (by omega), if_pos (by omega), show ((32 + b.toNat - 32 : Nat) : Int) = b by omega]
theorem cz_c_Q {G : cz_G} {S : az_M} {b : Int} (hb : 0 ≤ b ∧ b < 16) : cz_c G S (48 + b.toNat) = az_ia 0 21 (cz_gr S 5 21 (40 * b)) := by
  unfold cz_c
  rw [if_neg (by omega), if_neg (by omega), if_pos (by omega), show ((48 + b.toNat - 48 : Nat) : Int) = b by omega]
theorem cz_c_S {G : cz_G} {S : az_M} {s : Int} {j : Nat} (hs : 0 ≤ s ∧ s < 12) (hj : j < 8) : cz_c G S (64 + 8 * s.toNat + j) = cz_cS G S s j := by
  unfold cz_c
  rw [if_neg (by omega), if_neg (by omega), if_neg (by omega), show (((64 + 8 * s.toNat + j - 64) / 8 : Nat) : Int) = s by omega, show (64 + 8 * s.toNat + j - 64) % 8 = j by omega]
def cz_aw (n : Nat) (g : Int → Int32) (i : Int) (x : Int32) : az_C := az_ia 0 n (az_ui g i x)
theorem cz_ui_a {S : az_M} {k : Nat} {i : Int} {x : Int32} : az_ui (cz_ga S k) i x = cz_ga (az_up S k i x.toInt) k := by
  funext j
  unfold az_ui cz_ga
  rw [az_up_at]
  split
  · exact (Int32.ofInt_toInt x).symm
  · rfl
theorem cz_ui_r {S : az_M} {k n : Nat} {o i : Int} {x : Int32} (h : 0 ≤ i ∧ i < n) : az_ui (cz_gr S k n o) i x = cz_gr (az_up S k (o + i) x.toInt) k n o := by
  funext j
  unfold az_ui cz_gr
  rw [az_up_at]
  by_cases e : j = i
  · rw [if_pos e, e, if_pos h, if_pos rfl, Int32.ofInt_toInt]
  · rw [if_neg e, if_neg (show ¬ o + j = o + i by omega)]
theorem cz_ui_5 {S : az_M} {i : Int} {x : Int32} : az_ui (cz_g5 S) i x = cz_g5 (az_up S (cz_col (i % 5)) (i / 5) x.toInt) := by
  funext j
  unfold az_ui cz_g5
  by_cases e : j = i
  · rw [if_pos e, e, az_up_at, if_pos rfl, Int32.ofInt_toInt]
  · rw [if_neg e]
    have : cz_col (j % 5) = cz_col (i % 5) → j % 5 = i % 5 := by
      unfold cz_col
      intro h
      repeat' split at h
      all_goals first | omega | (exfalso; revert h; decide)
    unfold az_up
    by_cases e1 : cz_col (j % 5) = cz_col (i % 5)
    · rw [if_pos e1, if_neg (by have := this e1; omega)]
    · rw [if_neg e1]
section CzR
variable {G : cz_G} {S : az_M} {f : Nat → az_C} {z : Nat × Nat} {b s : Int}
theorem cz_F1_at : cz_H G S f (G.ad 1) = az_ob 10 (cz_f1 G S) := cz_H_at (by decide) (cz_okF 1 (by decide) (by decide))
theorem cz_F1_is : az_isob (cz_H G S f (G.ad 1)) 10 = true := by rw [cz_F1_at]; rfl
theorem cz_F1_f0 {K : Value → Prop} : az_mf (cz_H G S f (G.ad 1)) 10 0 K = K (.ref (G.ad 2)) := by rw [cz_F1_at]; rfl
theorem cz_F1_f1 {K : Value → Prop} : az_mf (cz_H G S f (G.ad 1)) 10 1 K = K (.ref (G.ad 5)) := by rw [cz_F1_at]; rfl
theorem cz_F1_f2 {K : Value → Prop} : az_mf (cz_H G S f (G.ad 1)) 10 2 K = K (.ref (G.ad 10)) := by rw [cz_F1_at]; rfl
theorem cz_F1_f3 {K : Value → Prop} : az_mf (cz_H G S f (G.ad 1)) 10 3 K = K (.ref (G.ad 13)) := by rw [cz_F1_at]; rfl
theorem cz_F1_f4 {K : Value → Prop} : az_mf (cz_H G S f (G.ad 1)) 10 4 K = K (.ref (G.ad 17)) := by rw [cz_F1_at]; rfl
theorem cz_F1_f5 {K : Value → Prop} : az_mf (cz_H G S f (G.ad 1)) 10 5 K = K (.ref (G.ad 19)) := by rw [cz_F1_at]; rfl
theorem cz_F1_f6 {K : Value → Prop} : az_mf (cz_H G S f (G.ad 1)) 10 6 K = K (.int (Int32.ofInt (S 0 0))) := by rw [cz_F1_at]; rfl
theorem cz_F1_w6 {x : Int32} {K : az_C → Prop} : az_mp (cz_H G S f (G.ad 1)) 10 6 2 (.int x) K = ((x = 0 ∨ x = 1) ∧ K (az_ob 10 ((cz_f1 G S).set 6 (.int x)))) := by rw [cz_F1_at]; exact propext ⟨fun z => ⟨by simpa [az_fit] using z.1, z.2⟩, fun z => ⟨by simpa [az_fit] using z.1, z.2⟩⟩
theorem cz_F1_u6 {x : Int32} : az_uh (cz_H G S f, z) (G.ad 1) (az_ob 10 ((cz_f1 G S).set 6 (.int x))) = (cz_H G (az_up S 0 0 x.toInt) f, z) := by
  unfold az_uh
  refine Prod.ext ?_ rfl
  refine cz_H_up (by omega) (cz_okF 1 (by decide) (by decide)) rfl ?_
  rw [show cz_c G (az_up S 0 0 x.toInt) 1 = az_ob 10 (cz_f1 G (az_up S 0 0 x.toInt)) from rfl]
  unfold cz_f1
  rw [az_up_ne (k1 := 1) (by decide), az_up_at, if_pos rfl, Int32.ofInt_toInt]
  rfl
theorem cz_F1_f7 {K : Value → Prop} : az_mf (cz_H G S f (G.ad 1)) 10 7 K = K (.int (Int32.ofInt (S 1 0))) := by rw [cz_F1_at]; rfl
theorem cz_F1_w7 {x : Int32} {K : az_C → Prop} : az_mp (cz_H G S f (G.ad 1)) 10 7 2 (.int x) K = ((x = 0 ∨ x = 1) ∧ K (az_ob 10 ((cz_f1 G S).set 7 (.int x)))) := by rw [cz_F1_at]; exact propext ⟨fun z => ⟨by simpa [az_fit] using z.1, z.2⟩, fun z => ⟨by simpa [az_fit] using z.1, z.2⟩⟩
theorem cz_F1_u7 {x : Int32} : az_uh (cz_H G S f, z) (G.ad 1) (az_ob 10 ((cz_f1 G S).set 7 (.int x))) = (cz_H G (az_up S 1 0 x.toInt) f, z) := by
  unfold az_uh
  refine Prod.ext ?_ rfl
  refine cz_H_up (by omega) (cz_okF 1 (by decide) (by decide)) rfl ?_
  rw [show cz_c G (az_up S 1 0 x.toInt) 1 = az_ob 10 (cz_f1 G (az_up S 1 0 x.toInt)) from rfl]
  unfold cz_f1
  rw [az_up_ne (k1 := 0) (by decide), az_up_at, if_pos rfl, Int32.ofInt_toInt]
  rfl
theorem cz_F2_at : cz_H G S f (G.ad 2) = az_ob 2 (cz_f2 G S) := cz_H_at (by decide) (cz_okF 2 (by decide) (by decide))
theorem cz_F2_is : az_isob (cz_H G S f (G.ad 2)) 2 = true := by rw [cz_F2_at]; rfl
theorem cz_F2_f0 {K : Value → Prop} : az_mf (cz_H G S f (G.ad 2)) 2 0 K = K (.ref (G.ad 3)) := by rw [cz_F2_at]; rfl
theorem cz_F2_f1 {K : Value → Prop} : az_mf (cz_H G S f (G.ad 2)) 2 1 K = K (.ref (G.ad 4)) := by rw [cz_F2_at]; rfl
theorem cz_F2_f2 {K : Value → Prop} : az_mf (cz_H G S f (G.ad 2)) 2 2 K = K (.int (Int32.ofInt (S 100 0))) := by rw [cz_F2_at]; rfl
theorem cz_F2_w2 {x : Int32} {K : az_C → Prop} : az_mp (cz_H G S f (G.ad 2)) 2 2 0 (.int x) K = K (az_ob 2 ((cz_f2 G S).set 2 (.int x))) := by rw [cz_F2_at]; exact propext ⟨fun z => z.2, fun z => ⟨rfl, z⟩⟩
theorem cz_F2_u2 {x : Int32} : az_uh (cz_H G S f, z) (G.ad 2) (az_ob 2 ((cz_f2 G S).set 2 (.int x))) = (cz_H G (az_up S 100 0 x.toInt) f, z) := by
  unfold az_uh
  refine Prod.ext ?_ rfl
  refine cz_H_up (by omega) (cz_okF 2 (by decide) (by decide)) rfl ?_
  rw [show cz_c G (az_up S 100 0 x.toInt) 2 = az_ob 2 (cz_f2 G (az_up S 100 0 x.toInt)) from rfl]
  unfold cz_f2
  rw [az_up_at, if_pos rfl, Int32.ofInt_toInt]
  rfl
theorem cz_F5_at : cz_H G S f (G.ad 5) = az_ob 5 (cz_f5 G S) := cz_H_at (by decide) (cz_okF 5 (by decide) (by decide))
theorem cz_F5_is : az_isob (cz_H G S f (G.ad 5)) 5 = true := by rw [cz_F5_at]; rfl
theorem cz_F5_f0 {K : Value → Prop} : az_mf (cz_H G S f (G.ad 5)) 5 0 K = K (.int (Int32.ofInt (S 33 0))) := by rw [cz_F5_at]; rfl
theorem cz_F5_w0 {x : Int32} {K : az_C → Prop} : az_mp (cz_H G S f (G.ad 5)) 5 0 0 (.int x) K = K (az_ob 5 ((cz_f5 G S).set 0 (.int x))) := by rw [cz_F5_at]; exact propext ⟨fun z => z.2, fun z => ⟨rfl, z⟩⟩
theorem cz_F5_u0 {x : Int32} : az_uh (cz_H G S f, z) (G.ad 5) (az_ob 5 ((cz_f5 G S).set 0 (.int x))) = (cz_H G (az_up S 33 0 x.toInt) f, z) := by
  unfold az_uh
  refine Prod.ext ?_ rfl
  refine cz_H_up (by omega) (cz_okF 5 (by decide) (by decide)) rfl ?_
  rw [show cz_c G (az_up S 33 0 x.toInt) 5 = az_ob 5 (cz_f5 G (az_up S 33 0 x.toInt)) from rfl]
  unfold cz_f5
  rw [az_up_at, if_pos rfl, Int32.ofInt_toInt]
  rfl
theorem cz_F5_f1 {K : Value → Prop} : az_mf (cz_H G S f (G.ad 5)) 5 1 K = K (.ref (G.ad 6)) := by rw [cz_F5_at]; rfl
theorem cz_F5_f2 {K : Value → Prop} : az_mf (cz_H G S f (G.ad 5)) 5 2 K = K (.ref (G.ad 7)) := by rw [cz_F5_at]; rfl
theorem cz_F5_f3 {K : Value → Prop} : az_mf (cz_H G S f (G.ad 5)) 5 3 K = K (.ref (G.ad 8)) := by rw [cz_F5_at]; rfl
theorem cz_F5_f4 {K : Value → Prop} : az_mf (cz_H G S f (G.ad 5)) 5 4 K = K (.ref (G.ad 9)) := by rw [cz_F5_at]; rfl
theorem cz_F10_at : cz_H G S f (G.ad 10) = az_ob 3 (cz_f10 G S) := cz_H_at (by decide) (cz_okF 10 (by decide) (by decide))
theorem cz_F10_is : az_isob (cz_H G S f (G.ad 10)) 3 = true := by rw [cz_F10_at]; rfl
theorem cz_F10_f0 {K : Value → Prop} : az_mf (cz_H G S f (G.ad 10)) 3 0 K = K (.long (Int64.ofInt (S 48 0))) := by rw [cz_F10_at]; rfl
theorem cz_F10_w0 {x : Int64} {K : az_C → Prop} : az_mp (cz_H G S f (G.ad 10)) 3 0 1 (.long x) K = K (az_ob 3 ((cz_f10 G S).set 0 (.long x))) := by rw [cz_F10_at]; exact propext ⟨fun z => z.2, fun z => ⟨rfl, z⟩⟩
theorem cz_F10_u0 {x : Int64} : az_uh (cz_H G S f, z) (G.ad 10) (az_ob 3 ((cz_f10 G S).set 0 (.long x))) = (cz_H G (az_up S 48 0 x.toInt) f, z) := by
  unfold az_uh
  refine Prod.ext ?_ rfl
  refine cz_H_up (by omega) (cz_okF 10 (by decide) (by decide)) rfl ?_
  rw [show cz_c G (az_up S 48 0 x.toInt) 10 = az_ob 3 (cz_f10 G (az_up S 48 0 x.toInt)) from rfl]
  unfold cz_f10
  rw [az_up_ne (k1 := 43) (by decide), az_up_ne (k1 := 49) (by decide), az_up_ne (k1 := 50) (by decide), az_up_ne (k1 := 51) (by decide), az_up_ne (k1 := 52) (by decide), az_up_at, if_pos rfl, Int64.ofInt_toInt]
  rfl
theorem cz_F10_f1 {K : Value → Prop} : az_mf (cz_H G S f (G.ad 10)) 3 1 K = K (.long (Int64.ofInt (S 49 0))) := by rw [cz_F10_at]; rfl
theorem cz_F10_w1 {x : Int64} {K : az_C → Prop} : az_mp (cz_H G S f (G.ad 10)) 3 1 1 (.long x) K = K (az_ob 3 ((cz_f10 G S).set 1 (.long x))) := by rw [cz_F10_at]; exact propext ⟨fun z => z.2, fun z => ⟨rfl, z⟩⟩
theorem cz_F10_u1 {x : Int64} : az_uh (cz_H G S f, z) (G.ad 10) (az_ob 3 ((cz_f10 G S).set 1 (.long x))) = (cz_H G (az_up S 49 0 x.toInt) f, z) := by
  unfold az_uh
  refine Prod.ext ?_ rfl
  refine cz_H_up (by omega) (cz_okF 10 (by decide) (by decide)) rfl ?_
  rw [show cz_c G (az_up S 49 0 x.toInt) 10 = az_ob 3 (cz_f10 G (az_up S 49 0 x.toInt)) from rfl]
  unfold cz_f10
  rw [az_up_ne (k1 := 43) (by decide), az_up_ne (k1 := 48) (by decide), az_up_ne (k1 := 50) (by decide), az_up_ne (k1 := 51) (by decide), az_up_ne (k1 := 52) (by decide), az_up_at, if_pos rfl, Int64.ofInt_toInt]
  rfl
theorem cz_F10_f2 {K : Value → Prop} : az_mf (cz_H G S f (G.ad 10)) 3 2 K = K (.long (Int64.ofInt (S 50 0))) := by rw [cz_F10_at]; rfl
theorem cz_F10_w2 {x : Int64} {K : az_C → Prop} : az_mp (cz_H G S f (G.ad 10)) 3 2 1 (.long x) K = K (az_ob 3 ((cz_f10 G S).set 2 (.long x))) := by rw [cz_F10_at]; exact propext ⟨fun z => z.2, fun z => ⟨rfl, z⟩⟩
theorem cz_F10_u2 {x : Int64} : az_uh (cz_H G S f, z) (G.ad 10) (az_ob 3 ((cz_f10 G S).set 2 (.long x))) = (cz_H G (az_up S 50 0 x.toInt) f, z) := by
  unfold az_uh
  refine Prod.ext ?_ rfl
  refine cz_H_up (by omega) (cz_okF 10 (by decide) (by decide)) rfl ?_
  rw [show cz_c G (az_up S 50 0 x.toInt) 10 = az_ob 3 (cz_f10 G (az_up S 50 0 x.toInt)) from rfl]
  unfold cz_f10
  rw [az_up_ne (k1 := 43) (by decide), az_up_ne (k1 := 48) (by decide), az_up_ne (k1 := 49) (by decide), az_up_ne (k1 := 51) (by decide), az_up_ne (k1 := 52) (by decide), az_up_at, if_pos rfl, Int64.ofInt_toInt]
  rfl
theorem cz_F10_f3 {K : Value → Prop} : az_mf (cz_H G S f (G.ad 10)) 3 3 K = K (.long (Int64.ofInt (S 51 0))) := by rw [cz_F10_at]; rfl
theorem cz_F10_w3 {x : Int64} {K : az_C → Prop} : az_mp (cz_H G S f (G.ad 10)) 3 3 1 (.long x) K = K (az_ob 3 ((cz_f10 G S).set 3 (.long x))) := by rw [cz_F10_at]; exact propext ⟨fun z => z.2, fun z => ⟨rfl, z⟩⟩
theorem cz_F10_u3 {x : Int64} : az_uh (cz_H G S f, z) (G.ad 10) (az_ob 3 ((cz_f10 G S).set 3 (.long x))) = (cz_H G (az_up S 51 0 x.toInt) f, z) := by
  unfold az_uh
  refine Prod.ext ?_ rfl
  refine cz_H_up (by omega) (cz_okF 10 (by decide) (by decide)) rfl ?_
  rw [show cz_c G (az_up S 51 0 x.toInt) 10 = az_ob 3 (cz_f10 G (az_up S 51 0 x.toInt)) from rfl]
  unfold cz_f10
  rw [az_up_ne (k1 := 43) (by decide), az_up_ne (k1 := 48) (by decide), az_up_ne (k1 := 49) (by decide), az_up_ne (k1 := 50) (by decide), az_up_ne (k1 := 52) (by decide), az_up_at, if_pos rfl, Int64.ofInt_toInt]
  rfl
theorem cz_F10_f4 {K : Value → Prop} : az_mf (cz_H G S f (G.ad 10)) 3 4 K = K (.long (Int64.ofInt (S 52 0))) := by rw [cz_F10_at]; rfl
theorem cz_F10_w4 {x : Int64} {K : az_C → Prop} : az_mp (cz_H G S f (G.ad 10)) 3 4 1 (.long x) K = K (az_ob 3 ((cz_f10 G S).set 4 (.long x))) := by rw [cz_F10_at]; exact propext ⟨fun z => z.2, fun z => ⟨rfl, z⟩⟩
theorem cz_F10_u4 {x : Int64} : az_uh (cz_H G S f, z) (G.ad 10) (az_ob 3 ((cz_f10 G S).set 4 (.long x))) = (cz_H G (az_up S 52 0 x.toInt) f, z) := by
  unfold az_uh
  refine Prod.ext ?_ rfl
  refine cz_H_up (by omega) (cz_okF 10 (by decide) (by decide)) rfl ?_
  rw [show cz_c G (az_up S 52 0 x.toInt) 10 = az_ob 3 (cz_f10 G (az_up S 52 0 x.toInt)) from rfl]
  unfold cz_f10
  rw [az_up_ne (k1 := 43) (by decide), az_up_ne (k1 := 48) (by decide), az_up_ne (k1 := 49) (by decide), az_up_ne (k1 := 50) (by decide), az_up_ne (k1 := 51) (by decide), az_up_at, if_pos rfl, Int64.ofInt_toInt]
  rfl
theorem cz_F10_f5 {K : Value → Prop} : az_mf (cz_H G S f (G.ad 10)) 3 5 K = K (.ref (G.ad 11)) := by rw [cz_F10_at]; rfl
theorem cz_F10_f6 {K : Value → Prop} : az_mf (cz_H G S f (G.ad 10)) 3 6 K = K (.int (Int32.ofInt (S 43 0))) := by rw [cz_F10_at]; rfl
theorem cz_F10_w6 {x : Int32} {K : az_C → Prop} : az_mp (cz_H G S f (G.ad 10)) 3 6 0 (.int x) K = K (az_ob 3 ((cz_f10 G S).set 6 (.int x))) := by rw [cz_F10_at]; exact propext ⟨fun z => z.2, fun z => ⟨rfl, z⟩⟩
theorem cz_F10_u6 {x : Int32} : az_uh (cz_H G S f, z) (G.ad 10) (az_ob 3 ((cz_f10 G S).set 6 (.int x))) = (cz_H G (az_up S 43 0 x.toInt) f, z) := by
  unfold az_uh
  refine Prod.ext ?_ rfl
  refine cz_H_up (by omega) (cz_okF 10 (by decide) (by decide)) rfl ?_
  rw [show cz_c G (az_up S 43 0 x.toInt) 10 = az_ob 3 (cz_f10 G (az_up S 43 0 x.toInt)) from rfl]
  unfold cz_f10
  rw [az_up_ne (k1 := 48) (by decide), az_up_ne (k1 := 49) (by decide), az_up_ne (k1 := 50) (by decide), az_up_ne (k1 := 51) (by decide), az_up_ne (k1 := 52) (by decide), az_up_at, if_pos rfl, Int32.ofInt_toInt]
  rfl
theorem cz_F10_f7 {K : Value → Prop} : az_mf (cz_H G S f (G.ad 10)) 3 7 K = K (.ref (G.ad 12)) := by rw [cz_F10_at]; rfl
theorem cz_F13_at : cz_H G S f (G.ad 13) = az_ob 1 (cz_f13 G S) := cz_H_at (by decide) (cz_okF 13 (by decide) (by decide))
theorem cz_F13_is : az_isob (cz_H G S f (G.ad 13)) 1 = true := by rw [cz_F13_at]; rfl
theorem cz_F13_f0 {K : Value → Prop} : az_mf (cz_H G S f (G.ad 13)) 1 0 K = K (.ref (G.ad 14)) := by rw [cz_F13_at]; rfl
theorem cz_F13_f1 {K : Value → Prop} : az_mf (cz_H G S f (G.ad 13)) 1 1 K = K (.ref (G.ad 15)) := by rw [cz_F13_at]; rfl
theorem cz_F13_f2 {K : Value → Prop} : az_mf (cz_H G S f (G.ad 13)) 1 2 K = K (.ref (G.ad 16)) := by rw [cz_F13_at]; rfl
theorem cz_F13_f3 {K : Value → Prop} : az_mf (cz_H G S f (G.ad 13)) 1 3 K = K (.int (Int32.ofInt (S 38 0))) := by rw [cz_F13_at]; rfl
theorem cz_F13_w3 {x : Int32} {K : az_C → Prop} : az_mp (cz_H G S f (G.ad 13)) 1 3 0 (.int x) K = K (az_ob 1 ((cz_f13 G S).set 3 (.int x))) := by rw [cz_F13_at]; exact propext ⟨fun z => z.2, fun z => ⟨rfl, z⟩⟩
theorem cz_F13_u3 {x : Int32} : az_uh (cz_H G S f, z) (G.ad 13) (az_ob 1 ((cz_f13 G S).set 3 (.int x))) = (cz_H G (az_up S 38 0 x.toInt) f, z) := by
  unfold az_uh
  refine Prod.ext ?_ rfl
  refine cz_H_up (by omega) (cz_okF 13 (by decide) (by decide)) rfl ?_
  rw [show cz_c G (az_up S 38 0 x.toInt) 13 = az_ob 1 (cz_f13 G (az_up S 38 0 x.toInt)) from rfl]
  unfold cz_f13
  rw [az_up_ne (k1 := 102) (by decide), az_up_at, if_pos rfl, Int32.ofInt_toInt]
  rfl
theorem cz_F13_f4 {K : Value → Prop} : az_mf (cz_H G S f (G.ad 13)) 1 4 K = K (.int (Int32.ofInt (S 102 0))) := by rw [cz_F13_at]; rfl
theorem cz_F13_w4 {x : Int32} {K : az_C → Prop} : az_mp (cz_H G S f (G.ad 13)) 1 4 0 (.int x) K = K (az_ob 1 ((cz_f13 G S).set 4 (.int x))) := by rw [cz_F13_at]; exact propext ⟨fun z => z.2, fun z => ⟨rfl, z⟩⟩
theorem cz_F13_u4 {x : Int32} : az_uh (cz_H G S f, z) (G.ad 13) (az_ob 1 ((cz_f13 G S).set 4 (.int x))) = (cz_H G (az_up S 102 0 x.toInt) f, z) := by
  unfold az_uh
  refine Prod.ext ?_ rfl
  refine cz_H_up (by omega) (cz_okF 13 (by decide) (by decide)) rfl ?_
  rw [show cz_c G (az_up S 102 0 x.toInt) 13 = az_ob 1 (cz_f13 G (az_up S 102 0 x.toInt)) from rfl]
  unfold cz_f13
  rw [az_up_ne (k1 := 38) (by decide), az_up_at, if_pos rfl, Int32.ofInt_toInt]
  rfl
theorem cz_F17_at : cz_H G S f (G.ad 17) = az_ob 7 (cz_f17 G S) := cz_H_at (by decide) (cz_okF 17 (by decide) (by decide))
theorem cz_F17_is : az_isob (cz_H G S f (G.ad 17)) 7 = true := by rw [cz_F17_at]; rfl
theorem cz_F17_f0 {K : Value → Prop} : az_mf (cz_H G S f (G.ad 17)) 7 0 K = K (.ref (G.ad 2)) := by rw [cz_F17_at]; rfl
theorem cz_F17_f1 {K : Value → Prop} : az_mf (cz_H G S f (G.ad 17)) 7 1 K = K (.ref (G.ad 5)) := by rw [cz_F17_at]; rfl
theorem cz_F17_f2 {K : Value → Prop} : az_mf (cz_H G S f (G.ad 17)) 7 2 K = K (.ref (G.ad 10)) := by rw [cz_F17_at]; rfl
theorem cz_F17_f3 {K : Value → Prop} : az_mf (cz_H G S f (G.ad 17)) 7 3 K = K (.ref (G.ad 13)) := by rw [cz_F17_at]; rfl
theorem cz_F17_f4 {K : Value → Prop} : az_mf (cz_H G S f (G.ad 17)) 7 4 K = K (.ref (G.ad 18)) := by rw [cz_F17_at]; rfl
theorem cz_F17_f5 {K : Value → Prop} : az_mf (cz_H G S f (G.ad 17)) 7 5 K = K (.int (Int32.ofInt (S 2 0))) := by rw [cz_F17_at]; rfl
theorem cz_F17_w5 {x : Int32} {K : az_C → Prop} : az_mp (cz_H G S f (G.ad 17)) 7 5 0 (.int x) K = K (az_ob 7 ((cz_f17 G S).set 5 (.int x))) := by rw [cz_F17_at]; exact propext ⟨fun z => z.2, fun z => ⟨rfl, z⟩⟩
theorem cz_F17_u5 {x : Int32} : az_uh (cz_H G S f, z) (G.ad 17) (az_ob 7 ((cz_f17 G S).set 5 (.int x))) = (cz_H G (az_up S 2 0 x.toInt) f, z) := by
  unfold az_uh
  refine Prod.ext ?_ rfl
  refine cz_H_up (by omega) (cz_okF 17 (by decide) (by decide)) rfl ?_
  rw [show cz_c G (az_up S 2 0 x.toInt) 17 = az_ob 7 (cz_f17 G (az_up S 2 0 x.toInt)) from rfl]
  unfold cz_f17
  rw [az_up_at, if_pos rfl, Int32.ofInt_toInt]
  rfl
theorem cz_F18_at : cz_H G S f (G.ad 18) = az_ob 9 (cz_f18 G S) := cz_H_at (by decide) (cz_okF 18 (by decide) (by decide))
theorem cz_F18_is : az_isob (cz_H G S f (G.ad 18)) 9 = true := by rw [cz_F18_at]; rfl
theorem cz_F18_f0 {K : Value → Prop} : az_mf (cz_H G S f (G.ad 18)) 9 0 K = K (.ref (G.ad 5)) := by rw [cz_F18_at]; rfl
theorem cz_F18_f1 {K : Value → Prop} : az_mf (cz_H G S f (G.ad 18)) 9 1 K = K (.ref (G.ad 10)) := by rw [cz_F18_at]; rfl
theorem cz_F19_at : cz_H G S f (G.ad 19) = az_ob 6 (cz_f19 G S) := cz_H_at (by decide) (cz_okF 19 (by decide) (by decide))
theorem cz_F19_is : az_isob (cz_H G S f (G.ad 19)) 6 = true := by rw [cz_F19_at]; rfl
theorem cz_F19_f0 {K : Value → Prop} : az_mf (cz_H G S f (G.ad 19)) 6 0 K = K (.ref (G.ad 20)) := by rw [cz_F19_at]; rfl
theorem cz_F19_f1 {K : Value → Prop} : az_mf (cz_H G S f (G.ad 19)) 6 1 K = K (.ref (G.ad 21)) := by rw [cz_F19_at]; rfl
theorem cz_F19_f2 {K : Value → Prop} : az_mf (cz_H G S f (G.ad 19)) 6 2 K = K (.ref (G.ad 22)) := by rw [cz_F19_at]; rfl
theorem cz_F19_f3 {K : Value → Prop} : az_mf (cz_H G S f (G.ad 19)) 6 3 K = K (.int (Int32.ofInt (S 106 0))) := by rw [cz_F19_at]; rfl
theorem cz_F19_w3 {x : Int32} {K : az_C → Prop} : az_mp (cz_H G S f (G.ad 19)) 6 3 0 (.int x) K = K (az_ob 6 ((cz_f19 G S).set 3 (.int x))) := by rw [cz_F19_at]; exact propext ⟨fun z => z.2, fun z => ⟨rfl, z⟩⟩
theorem cz_F19_u3 {x : Int32} : az_uh (cz_H G S f, z) (G.ad 19) (az_ob 6 ((cz_f19 G S).set 3 (.int x))) = (cz_H G (az_up S 106 0 x.toInt) f, z) := by
  unfold az_uh
  refine Prod.ext ?_ rfl
  refine cz_H_up (by omega) (cz_okF 19 (by decide) (by decide)) rfl ?_
  rw [show cz_c G (az_up S 106 0 x.toInt) 19 = az_ob 6 (cz_f19 G (az_up S 106 0 x.toInt)) from rfl]
  unfold cz_f19
  rw [az_up_at, if_pos rfl, Int32.ofInt_toInt]
  rfl
theorem cz_Bo_at (hb : cz_B G b) : cz_H G S f (cz_ab G b) = az_ob 0 (cz_fB G S b) := (cz_H_at (by omega) hb.2.2.1).trans (cz_c_B hb.1)
theorem cz_Bo_is (hb : cz_B G b) : az_isob (cz_H G S f (cz_ab G b)) 0 = true := by rw [cz_Bo_at hb]; rfl
theorem cz_Bo_f0 (hb : cz_B G b) {K : Value → Prop} : az_mf (cz_H G S f (cz_ab G b)) 0 0 K = K (.int (Int32.ofInt (S 3 b))) := by rw [cz_Bo_at hb]; rfl
theorem cz_Bo_w0 (hb : cz_B G b) {x : Int32} {K : az_C → Prop} : az_mp (cz_H G S f (cz_ab G b)) 0 0 0 (.int x) K = K (az_ob 0 ((cz_fB G S b).set 0 (.int x))) := by rw [cz_Bo_at hb]; exact propext ⟨fun z => z.2, fun z => ⟨rfl, z⟩⟩
theorem cz_Bo_u0 (hb : cz_B G b) {x : Int32} : az_uh (cz_H G S f, z) (cz_ab G b) (az_ob 0 ((cz_fB G S b).set 0 (.int x))) = (cz_H G (az_up S 3 b x.toInt) f, z) := by
  unfold az_uh
  refine Prod.ext ?_ rfl
  refine cz_H_up (by omega) (hb.2.2.1) rfl ?_
  rw [cz_c_B hb.1]
  unfold cz_fB
  rw [az_up_ne (k1 := 4) (by decide), az_up_ne (k1 := 6) (by decide), az_up_at, if_pos rfl, Int32.ofInt_toInt]
  rfl
theorem cz_Bo_f1 (hb : cz_B G b) {K : Value → Prop} : az_mf (cz_H G S f (cz_ab G b)) 0 1 K = K (.ref (cz_aq G b)) := by rw [cz_Bo_at hb]; rfl
theorem cz_Bo_f2 (hb : cz_B G b) {K : Value → Prop} : az_mf (cz_H G S f (cz_ab G b)) 0 2 K = K (.int (Int32.ofInt (S 4 b))) := by rw [cz_Bo_at hb]; rfl
theorem cz_Bo_w2 (hb : cz_B G b) {x : Int32} {K : az_C → Prop} : az_mp (cz_H G S f (cz_ab G b)) 0 2 0 (.int x) K = K (az_ob 0 ((cz_fB G S b).set 2 (.int x))) := by rw [cz_Bo_at hb]; exact propext ⟨fun z => z.2, fun z => ⟨rfl, z⟩⟩
theorem cz_Bo_u2 (hb : cz_B G b) {x : Int32} : az_uh (cz_H G S f, z) (cz_ab G b) (az_ob 0 ((cz_fB G S b).set 2 (.int x))) = (cz_H G (az_up S 4 b x.toInt) f, z) := by
  unfold az_uh
  refine Prod.ext ?_ rfl
  refine cz_H_up (by omega) (hb.2.2.1) rfl ?_
  rw [cz_c_B hb.1]
  unfold cz_fB
  rw [az_up_ne (k1 := 3) (by decide), az_up_ne (k1 := 6) (by decide), az_up_at, if_pos rfl, Int32.ofInt_toInt]
  rfl
theorem cz_Bo_f3 (hb : cz_B G b) {K : Value → Prop} : az_mf (cz_H G S f (cz_ab G b)) 0 3 K = K (.int (Int32.ofInt (S 6 b))) := by rw [cz_Bo_at hb]; rfl
theorem cz_Bo_w3 (hb : cz_B G b) {x : Int32} {K : az_C → Prop} : az_mp (cz_H G S f (cz_ab G b)) 0 3 0 (.int x) K = K (az_ob 0 ((cz_fB G S b).set 3 (.int x))) := by rw [cz_Bo_at hb]; exact propext ⟨fun z => z.2, fun z => ⟨rfl, z⟩⟩
theorem cz_Bo_u3 (hb : cz_B G b) {x : Int32} : az_uh (cz_H G S f, z) (cz_ab G b) (az_ob 0 ((cz_fB G S b).set 3 (.int x))) = (cz_H G (az_up S 6 b x.toInt) f, z) := by
  unfold az_uh
  refine Prod.ext ?_ rfl
  refine cz_H_up (by omega) (hb.2.2.1) rfl ?_
  rw [cz_c_B hb.1]
  unfold cz_fB
  rw [az_up_ne (k1 := 3) (by decide), az_up_ne (k1 := 4) (by decide), az_up_at, if_pos rfl, Int32.ofInt_toInt]
  rfl
theorem cz_So_at (hs : cz_S G s) : cz_H G S f (cz_as G s 0) = az_ob 8 (cz_fS G S s) := (cz_H_at (by omega) (hs.2.2 0 (by decide))).trans (cz_c_S hs.1 (by decide))
theorem cz_So_is (hs : cz_S G s) : az_isob (cz_H G S f (cz_as G s 0)) 8 = true := by rw [cz_So_at hs]; rfl
theorem cz_So_f0 (hs : cz_S G s) {K : Value → Prop} : az_mf (cz_H G S f (cz_as G s 0)) 8 0 K = K (.int (Int32.ofInt s)) := by rw [cz_So_at hs]; rfl
theorem cz_So_f1 (hs : cz_S G s) {K : Value → Prop} : az_mf (cz_H G S f (cz_as G s 0)) 8 1 K = K (.int (Int32.ofInt (S 8 s))) := by rw [cz_So_at hs]; rfl
theorem cz_So_w1 (hs : cz_S G s) {x : Int32} {K : az_C → Prop} : az_mp (cz_H G S f (cz_as G s 0)) 8 1 0 (.int x) K = K (az_ob 8 ((cz_fS G S s).set 1 (.int x))) := by rw [cz_So_at hs]; exact propext ⟨fun z => z.2, fun z => ⟨rfl, z⟩⟩
theorem cz_So_u1 (hs : cz_S G s) {x : Int32} : az_uh (cz_H G S f, z) (cz_as G s 0) (az_ob 8 ((cz_fS G S s).set 1 (.int x))) = (cz_H G (az_up S 8 s x.toInt) f, z) := by
  unfold az_uh
  refine Prod.ext ?_ rfl
  refine cz_H_up (by omega) (hs.2.2 0 (by decide)) rfl ?_
  rw [cz_c_S hs.1 (by decide), show cz_cS G (az_up S 8 s x.toInt) s 0 = az_ob 8 (cz_fS G (az_up S 8 s x.toInt) s) from rfl]
  unfold cz_fS
  rw [az_up_ne (k1 := 9) (by decide), az_up_ne (k1 := 10) (by decide), az_up_ne (k1 := 11) (by decide), az_up_ne (k1 := 13) (by decide), az_up_ne (k1 := 17) (by decide), az_up_ne (k1 := 18) (by decide), az_up_ne (k1 := 19) (by decide), az_up_ne (k1 := 28) (by decide), az_up_ne (k1 := 29) (by decide), az_up_ne (k1 := 30) (by decide), az_up_ne (k1 := 31) (by decide), az_up_ne (k1 := 32) (by decide), az_up_at, if_pos rfl, Int32.ofInt_toInt]
  rfl
theorem cz_So_f2 (hs : cz_S G s) {K : Value → Prop} : az_mf (cz_H G S f (cz_as G s 0)) 8 2 K = K (.int (Int32.ofInt (S 9 s))) := by rw [cz_So_at hs]; rfl
theorem cz_So_w2 (hs : cz_S G s) {x : Int32} {K : az_C → Prop} : az_mp (cz_H G S f (cz_as G s 0)) 8 2 0 (.int x) K = K (az_ob 8 ((cz_fS G S s).set 2 (.int x))) := by rw [cz_So_at hs]; exact propext ⟨fun z => z.2, fun z => ⟨rfl, z⟩⟩
theorem cz_So_u2 (hs : cz_S G s) {x : Int32} : az_uh (cz_H G S f, z) (cz_as G s 0) (az_ob 8 ((cz_fS G S s).set 2 (.int x))) = (cz_H G (az_up S 9 s x.toInt) f, z) := by
  unfold az_uh
  refine Prod.ext ?_ rfl
  refine cz_H_up (by omega) (hs.2.2 0 (by decide)) rfl ?_
  rw [cz_c_S hs.1 (by decide), show cz_cS G (az_up S 9 s x.toInt) s 0 = az_ob 8 (cz_fS G (az_up S 9 s x.toInt) s) from rfl]
  unfold cz_fS
  rw [az_up_ne (k1 := 8) (by decide), az_up_ne (k1 := 10) (by decide), az_up_ne (k1 := 11) (by decide), az_up_ne (k1 := 13) (by decide), az_up_ne (k1 := 17) (by decide), az_up_ne (k1 := 18) (by decide), az_up_ne (k1 := 19) (by decide), az_up_ne (k1 := 28) (by decide), az_up_ne (k1 := 29) (by decide), az_up_ne (k1 := 30) (by decide), az_up_ne (k1 := 31) (by decide), az_up_ne (k1 := 32) (by decide), az_up_at, if_pos rfl, Int32.ofInt_toInt]
  rfl
theorem cz_So_f3 (hs : cz_S G s) {K : Value → Prop} : az_mf (cz_H G S f (cz_as G s 0)) 8 3 K = K (.int (Int32.ofInt (S 10 s))) := by rw [cz_So_at hs]; rfl
theorem cz_So_w3 (hs : cz_S G s) {x : Int32} {K : az_C → Prop} : az_mp (cz_H G S f (cz_as G s 0)) 8 3 0 (.int x) K = K (az_ob 8 ((cz_fS G S s).set 3 (.int x))) := by rw [cz_So_at hs]; exact propext ⟨fun z => z.2, fun z => ⟨rfl, z⟩⟩
theorem cz_So_u3 (hs : cz_S G s) {x : Int32} : az_uh (cz_H G S f, z) (cz_as G s 0) (az_ob 8 ((cz_fS G S s).set 3 (.int x))) = (cz_H G (az_up S 10 s x.toInt) f, z) := by
  unfold az_uh
  refine Prod.ext ?_ rfl
  refine cz_H_up (by omega) (hs.2.2 0 (by decide)) rfl ?_
  rw [cz_c_S hs.1 (by decide), show cz_cS G (az_up S 10 s x.toInt) s 0 = az_ob 8 (cz_fS G (az_up S 10 s x.toInt) s) from rfl]
  unfold cz_fS
  rw [az_up_ne (k1 := 8) (by decide), az_up_ne (k1 := 9) (by decide), az_up_ne (k1 := 11) (by decide), az_up_ne (k1 := 13) (by decide), az_up_ne (k1 := 17) (by decide), az_up_ne (k1 := 18) (by decide), az_up_ne (k1 := 19) (by decide), az_up_ne (k1 := 28) (by decide), az_up_ne (k1 := 29) (by decide), az_up_ne (k1 := 30) (by decide), az_up_ne (k1 := 31) (by decide), az_up_ne (k1 := 32) (by decide), az_up_at, if_pos rfl, Int32.ofInt_toInt]
  rfl
theorem cz_So_f4 (hs : cz_S G s) {K : Value → Prop} : az_mf (cz_H G S f (cz_as G s 0)) 8 4 K = K (.ref (cz_as G s 1)) := by rw [cz_So_at hs]; rfl
theorem cz_So_f5 (hs : cz_S G s) {K : Value → Prop} : az_mf (cz_H G S f (cz_as G s 0)) 8 5 K = K (.int (Int32.ofInt (S 11 s))) := by rw [cz_So_at hs]; rfl
theorem cz_So_w5 (hs : cz_S G s) {x : Int32} {K : az_C → Prop} : az_mp (cz_H G S f (cz_as G s 0)) 8 5 0 (.int x) K = K (az_ob 8 ((cz_fS G S s).set 5 (.int x))) := by rw [cz_So_at hs]; exact propext ⟨fun z => z.2, fun z => ⟨rfl, z⟩⟩
theorem cz_So_u5 (hs : cz_S G s) {x : Int32} : az_uh (cz_H G S f, z) (cz_as G s 0) (az_ob 8 ((cz_fS G S s).set 5 (.int x))) = (cz_H G (az_up S 11 s x.toInt) f, z) := by
  unfold az_uh
  refine Prod.ext ?_ rfl
  refine cz_H_up (by omega) (hs.2.2 0 (by decide)) rfl ?_
  rw [cz_c_S hs.1 (by decide), show cz_cS G (az_up S 11 s x.toInt) s 0 = az_ob 8 (cz_fS G (az_up S 11 s x.toInt) s) from rfl]
  unfold cz_fS
  rw [az_up_ne (k1 := 8) (by decide), az_up_ne (k1 := 9) (by decide), az_up_ne (k1 := 10) (by decide), az_up_ne (k1 := 13) (by decide), az_up_ne (k1 := 17) (by decide), az_up_ne (k1 := 18) (by decide), az_up_ne (k1 := 19) (by decide), az_up_ne (k1 := 28) (by decide), az_up_ne (k1 := 29) (by decide), az_up_ne (k1 := 30) (by decide), az_up_ne (k1 := 31) (by decide), az_up_ne (k1 := 32) (by decide), az_up_at, if_pos rfl, Int32.ofInt_toInt]
  rfl
theorem cz_So_f6 (hs : cz_S G s) {K : Value → Prop} : az_mf (cz_H G S f (cz_as G s 0)) 8 6 K = K (.ref (cz_as G s 2)) := by rw [cz_So_at hs]; rfl
theorem cz_So_f7 (hs : cz_S G s) {K : Value → Prop} : az_mf (cz_H G S f (cz_as G s 0)) 8 7 K = K (.ref (cz_as G s 3)) := by rw [cz_So_at hs]; rfl
theorem cz_So_f8 (hs : cz_S G s) {K : Value → Prop} : az_mf (cz_H G S f (cz_as G s 0)) 8 8 K = K (.int (Int32.ofInt (S 13 s))) := by rw [cz_So_at hs]; rfl
theorem cz_So_w8 (hs : cz_S G s) {x : Int32} {K : az_C → Prop} : az_mp (cz_H G S f (cz_as G s 0)) 8 8 0 (.int x) K = K (az_ob 8 ((cz_fS G S s).set 8 (.int x))) := by rw [cz_So_at hs]; exact propext ⟨fun z => z.2, fun z => ⟨rfl, z⟩⟩
theorem cz_So_u8 (hs : cz_S G s) {x : Int32} : az_uh (cz_H G S f, z) (cz_as G s 0) (az_ob 8 ((cz_fS G S s).set 8 (.int x))) = (cz_H G (az_up S 13 s x.toInt) f, z) := by
  unfold az_uh
  refine Prod.ext ?_ rfl
  refine cz_H_up (by omega) (hs.2.2 0 (by decide)) rfl ?_
  rw [cz_c_S hs.1 (by decide), show cz_cS G (az_up S 13 s x.toInt) s 0 = az_ob 8 (cz_fS G (az_up S 13 s x.toInt) s) from rfl]
  unfold cz_fS
  rw [az_up_ne (k1 := 8) (by decide), az_up_ne (k1 := 9) (by decide), az_up_ne (k1 := 10) (by decide), az_up_ne (k1 := 11) (by decide), az_up_ne (k1 := 17) (by decide), az_up_ne (k1 := 18) (by decide), az_up_ne (k1 := 19) (by decide), az_up_ne (k1 := 28) (by decide), az_up_ne (k1 := 29) (by decide), az_up_ne (k1 := 30) (by decide), az_up_ne (k1 := 31) (by decide), az_up_ne (k1 := 32) (by decide), az_up_at, if_pos rfl, Int32.ofInt_toInt]
  rfl
theorem cz_So_f9 (hs : cz_S G s) {K : Value → Prop} : az_mf (cz_H G S f (cz_as G s 0)) 8 9 K = K (.ref (cz_as G s 4)) := by rw [cz_So_at hs]; rfl
theorem cz_So_f10 (hs : cz_S G s) {K : Value → Prop} : az_mf (cz_H G S f (cz_as G s 0)) 8 10 K = K (.int (Int32.ofInt (S 17 s))) := by rw [cz_So_at hs]; rfl
theorem cz_So_w10 (hs : cz_S G s) {x : Int32} {K : az_C → Prop} : az_mp (cz_H G S f (cz_as G s 0)) 8 10 0 (.int x) K = K (az_ob 8 ((cz_fS G S s).set 10 (.int x))) := by rw [cz_So_at hs]; exact propext ⟨fun z => z.2, fun z => ⟨rfl, z⟩⟩
theorem cz_So_u10 (hs : cz_S G s) {x : Int32} : az_uh (cz_H G S f, z) (cz_as G s 0) (az_ob 8 ((cz_fS G S s).set 10 (.int x))) = (cz_H G (az_up S 17 s x.toInt) f, z) := by
  unfold az_uh
  refine Prod.ext ?_ rfl
  refine cz_H_up (by omega) (hs.2.2 0 (by decide)) rfl ?_
  rw [cz_c_S hs.1 (by decide), show cz_cS G (az_up S 17 s x.toInt) s 0 = az_ob 8 (cz_fS G (az_up S 17 s x.toInt) s) from rfl]
  unfold cz_fS
  rw [az_up_ne (k1 := 8) (by decide), az_up_ne (k1 := 9) (by decide), az_up_ne (k1 := 10) (by decide), az_up_ne (k1 := 11) (by decide), az_up_ne (k1 := 13) (by decide), az_up_ne (k1 := 18) (by decide), az_up_ne (k1 := 19) (by decide), az_up_ne (k1 := 28) (by decide), az_up_ne (k1 := 29) (by decide), az_up_ne (k1 := 30) (by decide), az_up_ne (k1 := 31) (by decide), az_up_ne (k1 := 32) (by decide), az_up_at, if_pos rfl, Int32.ofInt_toInt]
  rfl
theorem cz_So_f11 (hs : cz_S G s) {K : Value → Prop} : az_mf (cz_H G S f (cz_as G s 0)) 8 11 K = K (.int (Int32.ofInt (S 18 s))) := by rw [cz_So_at hs]; rfl
theorem cz_So_w11 (hs : cz_S G s) {x : Int32} {K : az_C → Prop} : az_mp (cz_H G S f (cz_as G s 0)) 8 11 0 (.int x) K = K (az_ob 8 ((cz_fS G S s).set 11 (.int x))) := by rw [cz_So_at hs]; exact propext ⟨fun z => z.2, fun z => ⟨rfl, z⟩⟩
theorem cz_So_u11 (hs : cz_S G s) {x : Int32} : az_uh (cz_H G S f, z) (cz_as G s 0) (az_ob 8 ((cz_fS G S s).set 11 (.int x))) = (cz_H G (az_up S 18 s x.toInt) f, z) := by
  unfold az_uh
  refine Prod.ext ?_ rfl
  refine cz_H_up (by omega) (hs.2.2 0 (by decide)) rfl ?_
  rw [cz_c_S hs.1 (by decide), show cz_cS G (az_up S 18 s x.toInt) s 0 = az_ob 8 (cz_fS G (az_up S 18 s x.toInt) s) from rfl]
  unfold cz_fS
  rw [az_up_ne (k1 := 8) (by decide), az_up_ne (k1 := 9) (by decide), az_up_ne (k1 := 10) (by decide), az_up_ne (k1 := 11) (by decide), az_up_ne (k1 := 13) (by decide), az_up_ne (k1 := 17) (by decide), az_up_ne (k1 := 19) (by decide), az_up_ne (k1 := 28) (by decide), az_up_ne (k1 := 29) (by decide), az_up_ne (k1 := 30) (by decide), az_up_ne (k1 := 31) (by decide), az_up_ne (k1 := 32) (by decide), az_up_at, if_pos rfl, Int32.ofInt_toInt]
  rfl
theorem cz_So_f12 (hs : cz_S G s) {K : Value → Prop} : az_mf (cz_H G S f (cz_as G s 0)) 8 12 K = K (.int (Int32.ofInt (S 19 s))) := by rw [cz_So_at hs]; rfl
theorem cz_So_w12 (hs : cz_S G s) {x : Int32} {K : az_C → Prop} : az_mp (cz_H G S f (cz_as G s 0)) 8 12 0 (.int x) K = K (az_ob 8 ((cz_fS G S s).set 12 (.int x))) := by rw [cz_So_at hs]; exact propext ⟨fun z => z.2, fun z => ⟨rfl, z⟩⟩
theorem cz_So_u12 (hs : cz_S G s) {x : Int32} : az_uh (cz_H G S f, z) (cz_as G s 0) (az_ob 8 ((cz_fS G S s).set 12 (.int x))) = (cz_H G (az_up S 19 s x.toInt) f, z) := by
  unfold az_uh
  refine Prod.ext ?_ rfl
  refine cz_H_up (by omega) (hs.2.2 0 (by decide)) rfl ?_
  rw [cz_c_S hs.1 (by decide), show cz_cS G (az_up S 19 s x.toInt) s 0 = az_ob 8 (cz_fS G (az_up S 19 s x.toInt) s) from rfl]
  unfold cz_fS
  rw [az_up_ne (k1 := 8) (by decide), az_up_ne (k1 := 9) (by decide), az_up_ne (k1 := 10) (by decide), az_up_ne (k1 := 11) (by decide), az_up_ne (k1 := 13) (by decide), az_up_ne (k1 := 17) (by decide), az_up_ne (k1 := 18) (by decide), az_up_ne (k1 := 28) (by decide), az_up_ne (k1 := 29) (by decide), az_up_ne (k1 := 30) (by decide), az_up_ne (k1 := 31) (by decide), az_up_ne (k1 := 32) (by decide), az_up_at, if_pos rfl, Int32.ofInt_toInt]
  rfl
theorem cz_So_f13 (hs : cz_S G s) {K : Value → Prop} : az_mf (cz_H G S f (cz_as G s 0)) 8 13 K = K (.int (Int32.ofInt (S 28 s))) := by rw [cz_So_at hs]; rfl
theorem cz_So_w13 (hs : cz_S G s) {x : Int32} {K : az_C → Prop} : az_mp (cz_H G S f (cz_as G s 0)) 8 13 0 (.int x) K = K (az_ob 8 ((cz_fS G S s).set 13 (.int x))) := by rw [cz_So_at hs]; exact propext ⟨fun z => z.2, fun z => ⟨rfl, z⟩⟩
theorem cz_So_u13 (hs : cz_S G s) {x : Int32} : az_uh (cz_H G S f, z) (cz_as G s 0) (az_ob 8 ((cz_fS G S s).set 13 (.int x))) = (cz_H G (az_up S 28 s x.toInt) f, z) := by
  unfold az_uh
  refine Prod.ext ?_ rfl
  refine cz_H_up (by omega) (hs.2.2 0 (by decide)) rfl ?_
  rw [cz_c_S hs.1 (by decide), show cz_cS G (az_up S 28 s x.toInt) s 0 = az_ob 8 (cz_fS G (az_up S 28 s x.toInt) s) from rfl]
  unfold cz_fS
  rw [az_up_ne (k1 := 8) (by decide), az_up_ne (k1 := 9) (by decide), az_up_ne (k1 := 10) (by decide), az_up_ne (k1 := 11) (by decide), az_up_ne (k1 := 13) (by decide), az_up_ne (k1 := 17) (by decide), az_up_ne (k1 := 18) (by decide), az_up_ne (k1 := 19) (by decide), az_up_ne (k1 := 29) (by decide), az_up_ne (k1 := 30) (by decide), az_up_ne (k1 := 31) (by decide), az_up_ne (k1 := 32) (by decide), az_up_at, if_pos rfl, Int32.ofInt_toInt]
  rfl
theorem cz_So_f14 (hs : cz_S G s) {K : Value → Prop} : az_mf (cz_H G S f (cz_as G s 0)) 8 14 K = K (.int (Int32.ofInt (S 32 s))) := by rw [cz_So_at hs]; rfl
theorem cz_So_w14 (hs : cz_S G s) {x : Int32} {K : az_C → Prop} : az_mp (cz_H G S f (cz_as G s 0)) 8 14 0 (.int x) K = K (az_ob 8 ((cz_fS G S s).set 14 (.int x))) := by rw [cz_So_at hs]; exact propext ⟨fun z => z.2, fun z => ⟨rfl, z⟩⟩
theorem cz_So_u14 (hs : cz_S G s) {x : Int32} : az_uh (cz_H G S f, z) (cz_as G s 0) (az_ob 8 ((cz_fS G S s).set 14 (.int x))) = (cz_H G (az_up S 32 s x.toInt) f, z) := by
  unfold az_uh
  refine Prod.ext ?_ rfl
  refine cz_H_up (by omega) (hs.2.2 0 (by decide)) rfl ?_
  rw [cz_c_S hs.1 (by decide), show cz_cS G (az_up S 32 s x.toInt) s 0 = az_ob 8 (cz_fS G (az_up S 32 s x.toInt) s) from rfl]
  unfold cz_fS
  rw [az_up_ne (k1 := 8) (by decide), az_up_ne (k1 := 9) (by decide), az_up_ne (k1 := 10) (by decide), az_up_ne (k1 := 11) (by decide), az_up_ne (k1 := 13) (by decide), az_up_ne (k1 := 17) (by decide), az_up_ne (k1 := 18) (by decide), az_up_ne (k1 := 19) (by decide), az_up_ne (k1 := 28) (by decide), az_up_ne (k1 := 29) (by decide), az_up_ne (k1 := 30) (by decide), az_up_ne (k1 := 31) (by decide), az_up_at, if_pos rfl, Int32.ofInt_toInt]
  rfl
theorem cz_So_f15 (hs : cz_S G s) {K : Value → Prop} : az_mf (cz_H G S f (cz_as G s 0)) 8 15 K = K (.int (Int32.ofInt (S 29 s))) := by rw [cz_So_at hs]; rfl
theorem cz_So_w15 (hs : cz_S G s) {x : Int32} {K : az_C → Prop} : az_mp (cz_H G S f (cz_as G s 0)) 8 15 0 (.int x) K = K (az_ob 8 ((cz_fS G S s).set 15 (.int x))) := by rw [cz_So_at hs]; exact propext ⟨fun z => z.2, fun z => ⟨rfl, z⟩⟩
theorem cz_So_u15 (hs : cz_S G s) {x : Int32} : az_uh (cz_H G S f, z) (cz_as G s 0) (az_ob 8 ((cz_fS G S s).set 15 (.int x))) = (cz_H G (az_up S 29 s x.toInt) f, z) := by
  unfold az_uh
  refine Prod.ext ?_ rfl
  refine cz_H_up (by omega) (hs.2.2 0 (by decide)) rfl ?_
  rw [cz_c_S hs.1 (by decide), show cz_cS G (az_up S 29 s x.toInt) s 0 = az_ob 8 (cz_fS G (az_up S 29 s x.toInt) s) from rfl]
  unfold cz_fS
  rw [az_up_ne (k1 := 8) (by decide), az_up_ne (k1 := 9) (by decide), az_up_ne (k1 := 10) (by decide), az_up_ne (k1 := 11) (by decide), az_up_ne (k1 := 13) (by decide), az_up_ne (k1 := 17) (by decide), az_up_ne (k1 := 18) (by decide), az_up_ne (k1 := 19) (by decide), az_up_ne (k1 := 28) (by decide), az_up_ne (k1 := 30) (by decide), az_up_ne (k1 := 31) (by decide), az_up_ne (k1 := 32) (by decide), az_up_at, if_pos rfl, Int32.ofInt_toInt]
  rfl
theorem cz_So_f16 (hs : cz_S G s) {K : Value → Prop} : az_mf (cz_H G S f (cz_as G s 0)) 8 16 K = K (.int (Int32.ofInt (S 30 s))) := by rw [cz_So_at hs]; rfl
theorem cz_So_w16 (hs : cz_S G s) {x : Int32} {K : az_C → Prop} : az_mp (cz_H G S f (cz_as G s 0)) 8 16 0 (.int x) K = K (az_ob 8 ((cz_fS G S s).set 16 (.int x))) := by rw [cz_So_at hs]; exact propext ⟨fun z => z.2, fun z => ⟨rfl, z⟩⟩
theorem cz_So_u16 (hs : cz_S G s) {x : Int32} : az_uh (cz_H G S f, z) (cz_as G s 0) (az_ob 8 ((cz_fS G S s).set 16 (.int x))) = (cz_H G (az_up S 30 s x.toInt) f, z) := by
  unfold az_uh
  refine Prod.ext ?_ rfl
  refine cz_H_up (by omega) (hs.2.2 0 (by decide)) rfl ?_
  rw [cz_c_S hs.1 (by decide), show cz_cS G (az_up S 30 s x.toInt) s 0 = az_ob 8 (cz_fS G (az_up S 30 s x.toInt) s) from rfl]
  unfold cz_fS
  rw [az_up_ne (k1 := 8) (by decide), az_up_ne (k1 := 9) (by decide), az_up_ne (k1 := 10) (by decide), az_up_ne (k1 := 11) (by decide), az_up_ne (k1 := 13) (by decide), az_up_ne (k1 := 17) (by decide), az_up_ne (k1 := 18) (by decide), az_up_ne (k1 := 19) (by decide), az_up_ne (k1 := 28) (by decide), az_up_ne (k1 := 29) (by decide), az_up_ne (k1 := 31) (by decide), az_up_ne (k1 := 32) (by decide), az_up_at, if_pos rfl, Int32.ofInt_toInt]
  rfl
theorem cz_So_f17 (hs : cz_S G s) {K : Value → Prop} : az_mf (cz_H G S f (cz_as G s 0)) 8 17 K = K (.int (Int32.ofInt (S 31 s))) := by rw [cz_So_at hs]; rfl
theorem cz_So_w17 (hs : cz_S G s) {x : Int32} {K : az_C → Prop} : az_mp (cz_H G S f (cz_as G s 0)) 8 17 0 (.int x) K = K (az_ob 8 ((cz_fS G S s).set 17 (.int x))) := by rw [cz_So_at hs]; exact propext ⟨fun z => z.2, fun z => ⟨rfl, z⟩⟩
theorem cz_So_u17 (hs : cz_S G s) {x : Int32} : az_uh (cz_H G S f, z) (cz_as G s 0) (az_ob 8 ((cz_fS G S s).set 17 (.int x))) = (cz_H G (az_up S 31 s x.toInt) f, z) := by
  unfold az_uh
  refine Prod.ext ?_ rfl
  refine cz_H_up (by omega) (hs.2.2 0 (by decide)) rfl ?_
  rw [cz_c_S hs.1 (by decide), show cz_cS G (az_up S 31 s x.toInt) s 0 = az_ob 8 (cz_fS G (az_up S 31 s x.toInt) s) from rfl]
  unfold cz_fS
  rw [az_up_ne (k1 := 8) (by decide), az_up_ne (k1 := 9) (by decide), az_up_ne (k1 := 10) (by decide), az_up_ne (k1 := 11) (by decide), az_up_ne (k1 := 13) (by decide), az_up_ne (k1 := 17) (by decide), az_up_ne (k1 := 18) (by decide), az_up_ne (k1 := 19) (by decide), az_up_ne (k1 := 28) (by decide), az_up_ne (k1 := 29) (by decide), az_up_ne (k1 := 30) (by decide), az_up_ne (k1 := 32) (by decide), az_up_at, if_pos rfl, Int32.ofInt_toInt]
  rfl
theorem cz_So_f18 (hs : cz_S G s) {K : Value → Prop} : az_mf (cz_H G S f (cz_as G s 0)) 8 18 K = K (.ref (cz_as G s 5)) := by rw [cz_So_at hs]; rfl
theorem cz_So_f19 (hs : cz_S G s) {K : Value → Prop} : az_mf (cz_H G S f (cz_as G s 0)) 8 19 K = K (.ref (cz_as G s 7)) := by rw [cz_So_at hs]; rfl
theorem cz_Lo_at (hs : cz_S G s) : cz_H G S f (cz_as G s 5) = az_ob 4 (cz_fL G S s) := (cz_H_at (by omega) (hs.2.2 5 (by decide))).trans (cz_c_S hs.1 (by decide))
theorem cz_Lo_is (hs : cz_S G s) : az_isob (cz_H G S f (cz_as G s 5)) 4 = true := by rw [cz_Lo_at hs]; rfl
theorem cz_Lo_f0 (hs : cz_S G s) {K : Value → Prop} : az_mf (cz_H G S f (cz_as G s 5)) 4 0 K = K (.int (Int32.ofInt (S 21 s))) := by rw [cz_Lo_at hs]; rfl
theorem cz_Lo_w0 (hs : cz_S G s) {x : Int32} {K : az_C → Prop} : az_mp (cz_H G S f (cz_as G s 5)) 4 0 0 (.int x) K = K (az_ob 4 ((cz_fL G S s).set 0 (.int x))) := by rw [cz_Lo_at hs]; exact propext ⟨fun z => z.2, fun z => ⟨rfl, z⟩⟩
theorem cz_Lo_u0 (hs : cz_S G s) {x : Int32} : az_uh (cz_H G S f, z) (cz_as G s 5) (az_ob 4 ((cz_fL G S s).set 0 (.int x))) = (cz_H G (az_up S 21 s x.toInt) f, z) := by
  unfold az_uh
  refine Prod.ext ?_ rfl
  refine cz_H_up (by omega) (hs.2.2 5 (by decide)) rfl ?_
  rw [cz_c_S hs.1 (by decide), show cz_cS G (az_up S 21 s x.toInt) s 5 = az_ob 4 (cz_fL G (az_up S 21 s x.toInt) s) from rfl]
  unfold cz_fL
  rw [az_up_ne (k1 := 22) (by decide), az_up_ne (k1 := 108) (by decide), az_up_at, if_pos rfl, Int32.ofInt_toInt]
  rfl
theorem cz_Lo_f1 (hs : cz_S G s) {K : Value → Prop} : az_mf (cz_H G S f (cz_as G s 5)) 4 1 K = K (.int (Int32.ofInt (S 22 s))) := by rw [cz_Lo_at hs]; rfl
theorem cz_Lo_w1 (hs : cz_S G s) {x : Int32} {K : az_C → Prop} : az_mp (cz_H G S f (cz_as G s 5)) 4 1 0 (.int x) K = K (az_ob 4 ((cz_fL G S s).set 1 (.int x))) := by rw [cz_Lo_at hs]; exact propext ⟨fun z => z.2, fun z => ⟨rfl, z⟩⟩
theorem cz_Lo_u1 (hs : cz_S G s) {x : Int32} : az_uh (cz_H G S f, z) (cz_as G s 5) (az_ob 4 ((cz_fL G S s).set 1 (.int x))) = (cz_H G (az_up S 22 s x.toInt) f, z) := by
  unfold az_uh
  refine Prod.ext ?_ rfl
  refine cz_H_up (by omega) (hs.2.2 5 (by decide)) rfl ?_
  rw [cz_c_S hs.1 (by decide), show cz_cS G (az_up S 22 s x.toInt) s 5 = az_ob 4 (cz_fL G (az_up S 22 s x.toInt) s) from rfl]
  unfold cz_fL
  rw [az_up_ne (k1 := 21) (by decide), az_up_ne (k1 := 108) (by decide), az_up_at, if_pos rfl, Int32.ofInt_toInt]
  rfl
theorem cz_Lo_f2 (hs : cz_S G s) {K : Value → Prop} : az_mf (cz_H G S f (cz_as G s 5)) 4 2 K = K (.int (Int32.ofInt (S 108 s))) := by rw [cz_Lo_at hs]; rfl
theorem cz_Lo_w2 (hs : cz_S G s) {x : Int32} {K : az_C → Prop} : az_mp (cz_H G S f (cz_as G s 5)) 4 2 0 (.int x) K = K (az_ob 4 ((cz_fL G S s).set 2 (.int x))) := by rw [cz_Lo_at hs]; exact propext ⟨fun z => z.2, fun z => ⟨rfl, z⟩⟩
theorem cz_Lo_u2 (hs : cz_S G s) {x : Int32} : az_uh (cz_H G S f, z) (cz_as G s 5) (az_ob 4 ((cz_fL G S s).set 2 (.int x))) = (cz_H G (az_up S 108 s x.toInt) f, z) := by
  unfold az_uh
  refine Prod.ext ?_ rfl
  refine cz_H_up (by omega) (hs.2.2 5 (by decide)) rfl ?_
  rw [cz_c_S hs.1 (by decide), show cz_cS G (az_up S 108 s x.toInt) s 5 = az_ob 4 (cz_fL G (az_up S 108 s x.toInt) s) from rfl]
  unfold cz_fL
  rw [az_up_ne (k1 := 21) (by decide), az_up_ne (k1 := 22) (by decide), az_up_at, if_pos rfl, Int32.ofInt_toInt]
  rfl
theorem cz_Lo_f3 (hs : cz_S G s) {K : Value → Prop} : az_mf (cz_H G S f (cz_as G s 5)) 4 3 K = K (.ref (cz_as G s 6)) := by rw [cz_Lo_at hs]; rfl
theorem cz_F11_at : cz_H G S f (G.ad 11) = az_ia 0 (10) (cz_ga S 53) := cz_H_at (by decide) (cz_okF 11 (by decide) (by decide))
theorem cz_F11_n {K : Int32 → Prop} : az_mn (cz_H G S f (G.ad 11)) K = K (Int32.ofInt (10)) := by rw [cz_F11_at]; rfl
theorem cz_F11_r {i : Int} {K : Int32 → Prop} : az_mr (cz_H G S f (G.ad 11)) 0 i K = ((0 ≤ i ∧ i < 10) ∧ K (Int32.ofInt (S 53 i))) := by rw [cz_F11_at]; exact propext ⟨fun z => ⟨z.1.2, z.2⟩, fun z => ⟨⟨rfl, z.1⟩, z.2⟩⟩
theorem cz_F11_w {i : Int} {x : Int32} {K : az_C → Prop} : az_mw' (cz_H G S f (G.ad 11)) i x K = ((0 ≤ i ∧ i < 10) ∧ K (cz_aw (10) (cz_ga S 53) i x)) := by rw [cz_F11_at]; exact propext ⟨fun z => ⟨by have := z.1.2; omega, z.2⟩, fun z => ⟨⟨rfl, by omega⟩, z.2⟩⟩
theorem cz_F11_u {i : Int} {x : Int32} : az_uh (cz_H G S f, z) (G.ad 11) (cz_aw (10) (cz_ga S 53) i x) = (cz_H G (az_up S 53 i x.toInt) f, z) := by
  unfold az_uh cz_aw
  refine Prod.ext ?_ rfl
  refine cz_H_up (by omega) (cz_okF 11 (by decide) (by decide)) rfl ?_
  rw [cz_ui_a]
  rfl
theorem cz_F14_at : cz_H G S f (G.ad 14) = az_ia 0 (40) (cz_ga S 39) := cz_H_at (by decide) (cz_okF 14 (by decide) (by decide))
theorem cz_F14_n {K : Int32 → Prop} : az_mn (cz_H G S f (G.ad 14)) K = K (Int32.ofInt (40)) := by rw [cz_F14_at]; rfl
theorem cz_F14_r {i : Int} {K : Int32 → Prop} : az_mr (cz_H G S f (G.ad 14)) 0 i K = ((0 ≤ i ∧ i < 40) ∧ K (Int32.ofInt (S 39 i))) := by rw [cz_F14_at]; exact propext ⟨fun z => ⟨z.1.2, z.2⟩, fun z => ⟨⟨rfl, z.1⟩, z.2⟩⟩
theorem cz_F14_w {i : Int} {x : Int32} {K : az_C → Prop} : az_mw' (cz_H G S f (G.ad 14)) i x K = ((0 ≤ i ∧ i < 40) ∧ K (cz_aw (40) (cz_ga S 39) i x)) := by rw [cz_F14_at]; exact propext ⟨fun z => ⟨by have := z.1.2; omega, z.2⟩, fun z => ⟨⟨rfl, by omega⟩, z.2⟩⟩
theorem cz_F14_u {i : Int} {x : Int32} : az_uh (cz_H G S f, z) (G.ad 14) (cz_aw (40) (cz_ga S 39) i x) = (cz_H G (az_up S 39 i x.toInt) f, z) := by
  unfold az_uh cz_aw
  refine Prod.ext ?_ rfl
  refine cz_H_up (by omega) (cz_okF 14 (by decide) (by decide)) rfl ?_
  rw [cz_ui_a]
  rfl
theorem cz_F15_at : cz_H G S f (G.ad 15) = az_ia 0 (40) (cz_ga S 40) := cz_H_at (by decide) (cz_okF 15 (by decide) (by decide))
theorem cz_F15_n {K : Int32 → Prop} : az_mn (cz_H G S f (G.ad 15)) K = K (Int32.ofInt (40)) := by rw [cz_F15_at]; rfl
theorem cz_F15_r {i : Int} {K : Int32 → Prop} : az_mr (cz_H G S f (G.ad 15)) 0 i K = ((0 ≤ i ∧ i < 40) ∧ K (Int32.ofInt (S 40 i))) := by rw [cz_F15_at]; exact propext ⟨fun z => ⟨z.1.2, z.2⟩, fun z => ⟨⟨rfl, z.1⟩, z.2⟩⟩
theorem cz_F15_w {i : Int} {x : Int32} {K : az_C → Prop} : az_mw' (cz_H G S f (G.ad 15)) i x K = ((0 ≤ i ∧ i < 40) ∧ K (cz_aw (40) (cz_ga S 40) i x)) := by rw [cz_F15_at]; exact propext ⟨fun z => ⟨by have := z.1.2; omega, z.2⟩, fun z => ⟨⟨rfl, by omega⟩, z.2⟩⟩
theorem cz_F15_u {i : Int} {x : Int32} : az_uh (cz_H G S f, z) (G.ad 15) (cz_aw (40) (cz_ga S 40) i x) = (cz_H G (az_up S 40 i x.toInt) f, z) := by
  unfold az_uh cz_aw
  refine Prod.ext ?_ rfl
  refine cz_H_up (by omega) (cz_okF 15 (by decide) (by decide)) rfl ?_
  rw [cz_ui_a]
  rfl
theorem cz_F16_at : cz_H G S f (G.ad 16) = az_ia 0 (40) (cz_ga S 41) := cz_H_at (by decide) (cz_okF 16 (by decide) (by decide))
theorem cz_F16_n {K : Int32 → Prop} : az_mn (cz_H G S f (G.ad 16)) K = K (Int32.ofInt (40)) := by rw [cz_F16_at]; rfl
theorem cz_F16_r {i : Int} {K : Int32 → Prop} : az_mr (cz_H G S f (G.ad 16)) 0 i K = ((0 ≤ i ∧ i < 40) ∧ K (Int32.ofInt (S 41 i))) := by rw [cz_F16_at]; exact propext ⟨fun z => ⟨z.1.2, z.2⟩, fun z => ⟨⟨rfl, z.1⟩, z.2⟩⟩
theorem cz_F16_w {i : Int} {x : Int32} {K : az_C → Prop} : az_mw' (cz_H G S f (G.ad 16)) i x K = ((0 ≤ i ∧ i < 40) ∧ K (cz_aw (40) (cz_ga S 41) i x)) := by rw [cz_F16_at]; exact propext ⟨fun z => ⟨by have := z.1.2; omega, z.2⟩, fun z => ⟨⟨rfl, by omega⟩, z.2⟩⟩
theorem cz_F16_u {i : Int} {x : Int32} : az_uh (cz_H G S f, z) (G.ad 16) (cz_aw (40) (cz_ga S 41) i x) = (cz_H G (az_up S 41 i x.toInt) f, z) := by
  unfold az_uh cz_aw
  refine Prod.ext ?_ rfl
  refine cz_H_up (by omega) (cz_okF 16 (by decide) (by decide)) rfl ?_
  rw [cz_ui_a]
  rfl
theorem cz_F20_at : cz_H G S f (G.ad 20) = az_ia 0 (12) (cz_ga S 103) := cz_H_at (by decide) (cz_okF 20 (by decide) (by decide))
theorem cz_F20_n {K : Int32 → Prop} : az_mn (cz_H G S f (G.ad 20)) K = K (Int32.ofInt (12)) := by rw [cz_F20_at]; rfl
theorem cz_F20_r {i : Int} {K : Int32 → Prop} : az_mr (cz_H G S f (G.ad 20)) 0 i K = ((0 ≤ i ∧ i < 12) ∧ K (Int32.ofInt (S 103 i))) := by rw [cz_F20_at]; exact propext ⟨fun z => ⟨z.1.2, z.2⟩, fun z => ⟨⟨rfl, z.1⟩, z.2⟩⟩
theorem cz_F20_w {i : Int} {x : Int32} {K : az_C → Prop} : az_mw' (cz_H G S f (G.ad 20)) i x K = ((0 ≤ i ∧ i < 12) ∧ K (cz_aw (12) (cz_ga S 103) i x)) := by rw [cz_F20_at]; exact propext ⟨fun z => ⟨by have := z.1.2; omega, z.2⟩, fun z => ⟨⟨rfl, by omega⟩, z.2⟩⟩
theorem cz_F20_u {i : Int} {x : Int32} : az_uh (cz_H G S f, z) (G.ad 20) (cz_aw (12) (cz_ga S 103) i x) = (cz_H G (az_up S 103 i x.toInt) f, z) := by
  unfold az_uh cz_aw
  refine Prod.ext ?_ rfl
  refine cz_H_up (by omega) (cz_okF 20 (by decide) (by decide)) rfl ?_
  rw [cz_ui_a]
  rfl
theorem cz_F21_at : cz_H G S f (G.ad 21) = az_ia 0 (12) (cz_ga S 104) := cz_H_at (by decide) (cz_okF 21 (by decide) (by decide))
theorem cz_F21_n {K : Int32 → Prop} : az_mn (cz_H G S f (G.ad 21)) K = K (Int32.ofInt (12)) := by rw [cz_F21_at]; rfl
theorem cz_F21_r {i : Int} {K : Int32 → Prop} : az_mr (cz_H G S f (G.ad 21)) 0 i K = ((0 ≤ i ∧ i < 12) ∧ K (Int32.ofInt (S 104 i))) := by rw [cz_F21_at]; exact propext ⟨fun z => ⟨z.1.2, z.2⟩, fun z => ⟨⟨rfl, z.1⟩, z.2⟩⟩
theorem cz_F21_w {i : Int} {x : Int32} {K : az_C → Prop} : az_mw' (cz_H G S f (G.ad 21)) i x K = ((0 ≤ i ∧ i < 12) ∧ K (cz_aw (12) (cz_ga S 104) i x)) := by rw [cz_F21_at]; exact propext ⟨fun z => ⟨by have := z.1.2; omega, z.2⟩, fun z => ⟨⟨rfl, by omega⟩, z.2⟩⟩
theorem cz_F21_u {i : Int} {x : Int32} : az_uh (cz_H G S f, z) (G.ad 21) (cz_aw (12) (cz_ga S 104) i x) = (cz_H G (az_up S 104 i x.toInt) f, z) := by
  unfold az_uh cz_aw
  refine Prod.ext ?_ rfl
  refine cz_H_up (by omega) (cz_okF 21 (by decide) (by decide)) rfl ?_
  rw [cz_ui_a]
  rfl
theorem cz_F22_at : cz_H G S f (G.ad 22) = az_ia 0 (12) (cz_ga S 105) := cz_H_at (by decide) (cz_okF 22 (by decide) (by decide))
theorem cz_F22_n {K : Int32 → Prop} : az_mn (cz_H G S f (G.ad 22)) K = K (Int32.ofInt (12)) := by rw [cz_F22_at]; rfl
theorem cz_F22_r {i : Int} {K : Int32 → Prop} : az_mr (cz_H G S f (G.ad 22)) 0 i K = ((0 ≤ i ∧ i < 12) ∧ K (Int32.ofInt (S 105 i))) := by rw [cz_F22_at]; exact propext ⟨fun z => ⟨z.1.2, z.2⟩, fun z => ⟨⟨rfl, z.1⟩, z.2⟩⟩
theorem cz_F22_w {i : Int} {x : Int32} {K : az_C → Prop} : az_mw' (cz_H G S f (G.ad 22)) i x K = ((0 ≤ i ∧ i < 12) ∧ K (cz_aw (12) (cz_ga S 105) i x)) := by rw [cz_F22_at]; exact propext ⟨fun z => ⟨by have := z.1.2; omega, z.2⟩, fun z => ⟨⟨rfl, by omega⟩, z.2⟩⟩
theorem cz_F22_u {i : Int} {x : Int32} : az_uh (cz_H G S f, z) (G.ad 22) (cz_aw (12) (cz_ga S 105) i x) = (cz_H G (az_up S 105 i x.toInt) f, z) := by
  unfold az_uh cz_aw
  refine Prod.ext ?_ rfl
  refine cz_H_up (by omega) (cz_okF 22 (by decide) (by decide)) rfl ?_
  rw [cz_ui_a]
  rfl
theorem cz_F12_at : cz_H G S f (G.ad 12) = az_ia 0 (400) (cz_g5 S) := cz_H_at (by decide) (cz_okF 12 (by decide) (by decide))
theorem cz_F12_n {K : Int32 → Prop} : az_mn (cz_H G S f (G.ad 12)) K = K (Int32.ofInt (400)) := by rw [cz_F12_at]; rfl
theorem cz_F12_r {i : Int} {K : Int32 → Prop} : az_mr (cz_H G S f (G.ad 12)) 0 i K = ((0 ≤ i ∧ i < 400) ∧ K (Int32.ofInt (S (cz_col (i % 5)) (i / 5)))) := by rw [cz_F12_at]; exact propext ⟨fun z => ⟨z.1.2, z.2⟩, fun z => ⟨⟨rfl, z.1⟩, z.2⟩⟩
theorem cz_F12_w {i : Int} {x : Int32} {K : az_C → Prop} : az_mw' (cz_H G S f (G.ad 12)) i x K = ((0 ≤ i ∧ i < 400) ∧ K (cz_aw (400) (cz_g5 S) i x)) := by rw [cz_F12_at]; exact propext ⟨fun z => ⟨by have := z.1.2; omega, z.2⟩, fun z => ⟨⟨rfl, by omega⟩, z.2⟩⟩
theorem cz_F12_u {i : Int} {x : Int32} : az_uh (cz_H G S f, z) (G.ad 12) (cz_aw (400) (cz_g5 S) i x) = (cz_H G (az_up S (cz_col (i % 5)) (i / 5) x.toInt) f, z) := by
  unfold az_uh cz_aw
  refine Prod.ext ?_ rfl
  refine cz_H_up (by omega) (cz_okF 12 (by decide) (by decide)) (by unfold cz_col; repeat (first | rfl | split)) ?_
  rw [cz_ui_5]
  rfl
theorem cz_F6_at : cz_H G S f (G.ad 6) = az_ia 0 (1 * G.len) (cz_gr S 34 (1 * G.len) 0) := cz_H_at (by decide) (cz_okF 6 (by decide) (by decide))
theorem cz_F6_n {K : Int32 → Prop} : az_mn (cz_H G S f (G.ad 6)) K = K (Int32.ofInt (1 * (G.len : Int))) := by rw [cz_F6_at]; show K (Int32.ofNat _) = _; rw [show (1 * (G.len : Int) : Int) = ((1 * G.len : Nat) : Int) by omega]; rfl
theorem cz_F6_r {i : Int} {K : Int32 → Prop} : az_mr (cz_H G S f (G.ad 6)) 0 i K = ((0 ≤ i ∧ i < 1 * (G.len : Int)) ∧ K (Int32.ofInt (S 34 (0 + i)))) := by
  rw [cz_F6_at]
  have e : 0 ≤ i ∧ i < 1 * (G.len : Int) → (cz_gr S 34 (1 * G.len) 0) i = Int32.ofInt (S 34 (0 + i)) := fun h => if_pos (by omega)
  exact propext ⟨fun z => ⟨by have := z.1.2; omega, by have h := z.2; rw [e (by have := z.1.2; omega)] at h; exact h⟩, fun z => ⟨⟨rfl, by omega⟩, by show K ((cz_gr S 34 (1 * G.len) 0) i); rw [e z.1]; exact z.2⟩⟩
theorem cz_F6_w {i : Int} {x : Int32} {K : az_C → Prop} : az_mw' (cz_H G S f (G.ad 6)) i x K = ((0 ≤ i ∧ i < 1 * (G.len : Int)) ∧ K (cz_aw (1 * G.len) (cz_gr S 34 (1 * G.len) 0) i x)) := by rw [cz_F6_at]; exact propext ⟨fun z => ⟨by have := z.1.2; omega, z.2⟩, fun z => ⟨⟨rfl, by omega⟩, z.2⟩⟩
theorem cz_F6_u {i : Int} {x : Int32} (h1 : 0 ≤ i) (h2 : i < 1 * (G.len : Int)) : az_uh (cz_H G S f, z) (G.ad 6) (cz_aw (1 * G.len) (cz_gr S 34 (1 * G.len) 0) i x) = (cz_H G (az_up S 34 (0 + i) x.toInt) f, z) := by
  unfold az_uh cz_aw
  refine Prod.ext ?_ rfl
  refine cz_H_up (by omega) (cz_okF 6 (by decide) (by decide)) rfl ?_
  rw [cz_ui_r (by omega)]
  rfl
theorem cz_F7_at : cz_H G S f (G.ad 7) = az_ia 0 (1 * G.len) (cz_gr S 35 (1 * G.len) 0) := cz_H_at (by decide) (cz_okF 7 (by decide) (by decide))
theorem cz_F7_n {K : Int32 → Prop} : az_mn (cz_H G S f (G.ad 7)) K = K (Int32.ofInt (1 * (G.len : Int))) := by rw [cz_F7_at]; show K (Int32.ofNat _) = _; rw [show (1 * (G.len : Int) : Int) = ((1 * G.len : Nat) : Int) by omega]; rfl
theorem cz_F7_r {i : Int} {K : Int32 → Prop} : az_mr (cz_H G S f (G.ad 7)) 0 i K = ((0 ≤ i ∧ i < 1 * (G.len : Int)) ∧ K (Int32.ofInt (S 35 (0 + i)))) := by
  rw [cz_F7_at]
  have e : 0 ≤ i ∧ i < 1 * (G.len : Int) → (cz_gr S 35 (1 * G.len) 0) i = Int32.ofInt (S 35 (0 + i)) := fun h => if_pos (by omega)
  exact propext ⟨fun z => ⟨by have := z.1.2; omega, by have h := z.2; rw [e (by have := z.1.2; omega)] at h; exact h⟩, fun z => ⟨⟨rfl, by omega⟩, by show K ((cz_gr S 35 (1 * G.len) 0) i); rw [e z.1]; exact z.2⟩⟩
theorem cz_F7_w {i : Int} {x : Int32} {K : az_C → Prop} : az_mw' (cz_H G S f (G.ad 7)) i x K = ((0 ≤ i ∧ i < 1 * (G.len : Int)) ∧ K (cz_aw (1 * G.len) (cz_gr S 35 (1 * G.len) 0) i x)) := by rw [cz_F7_at]; exact propext ⟨fun z => ⟨by have := z.1.2; omega, z.2⟩, fun z => ⟨⟨rfl, by omega⟩, z.2⟩⟩
theorem cz_F7_u {i : Int} {x : Int32} (h1 : 0 ≤ i) (h2 : i < 1 * (G.len : Int)) : az_uh (cz_H G S f, z) (G.ad 7) (cz_aw (1 * G.len) (cz_gr S 35 (1 * G.len) 0) i x) = (cz_H G (az_up S 35 (0 + i) x.toInt) f, z) := by
  unfold az_uh cz_aw
  refine Prod.ext ?_ rfl
  refine cz_H_up (by omega) (cz_okF 7 (by decide) (by decide)) rfl ?_
  rw [cz_ui_r (by omega)]
  rfl
theorem cz_F8_at : cz_H G S f (G.ad 8) = az_ia 0 (1 * G.len) (cz_gr S 36 (1 * G.len) 0) := cz_H_at (by decide) (cz_okF 8 (by decide) (by decide))
theorem cz_F8_n {K : Int32 → Prop} : az_mn (cz_H G S f (G.ad 8)) K = K (Int32.ofInt (1 * (G.len : Int))) := by rw [cz_F8_at]; show K (Int32.ofNat _) = _; rw [show (1 * (G.len : Int) : Int) = ((1 * G.len : Nat) : Int) by omega]; rfl
theorem cz_F8_r {i : Int} {K : Int32 → Prop} : az_mr (cz_H G S f (G.ad 8)) 0 i K = ((0 ≤ i ∧ i < 1 * (G.len : Int)) ∧ K (Int32.ofInt (S 36 (0 + i)))) := by
  rw [cz_F8_at]
  have e : 0 ≤ i ∧ i < 1 * (G.len : Int) → (cz_gr S 36 (1 * G.len) 0) i = Int32.ofInt (S 36 (0 + i)) := fun h => if_pos (by omega)
  exact propext ⟨fun z => ⟨by have := z.1.2; omega, by have h := z.2; rw [e (by have := z.1.2; omega)] at h; exact h⟩, fun z => ⟨⟨rfl, by omega⟩, by show K ((cz_gr S 36 (1 * G.len) 0) i); rw [e z.1]; exact z.2⟩⟩
theorem cz_F8_w {i : Int} {x : Int32} {K : az_C → Prop} : az_mw' (cz_H G S f (G.ad 8)) i x K = ((0 ≤ i ∧ i < 1 * (G.len : Int)) ∧ K (cz_aw (1 * G.len) (cz_gr S 36 (1 * G.len) 0) i x)) := by rw [cz_F8_at]; exact propext ⟨fun z => ⟨by have := z.1.2; omega, z.2⟩, fun z => ⟨⟨rfl, by omega⟩, z.2⟩⟩
theorem cz_F8_u {i : Int} {x : Int32} (h1 : 0 ≤ i) (h2 : i < 1 * (G.len : Int)) : az_uh (cz_H G S f, z) (G.ad 8) (cz_aw (1 * G.len) (cz_gr S 36 (1 * G.len) 0) i x) = (cz_H G (az_up S 36 (0 + i) x.toInt) f, z) := by
  unfold az_uh cz_aw
  refine Prod.ext ?_ rfl
  refine cz_H_up (by omega) (cz_okF 8 (by decide) (by decide)) rfl ?_
  rw [cz_ui_r (by omega)]
  rfl
theorem cz_F9_at : cz_H G S f (G.ad 9) = az_ia 0 (4 * G.len) (cz_gr S 37 (4 * G.len) 0) := cz_H_at (by decide) (cz_okF 9 (by decide) (by decide))
theorem cz_F9_n {K : Int32 → Prop} : az_mn (cz_H G S f (G.ad 9)) K = K (Int32.ofInt (4 * (G.len : Int))) := by rw [cz_F9_at]; show K (Int32.ofNat _) = _; rw [show (4 * (G.len : Int) : Int) = ((4 * G.len : Nat) : Int) by omega]; rfl
theorem cz_F9_r {i : Int} {K : Int32 → Prop} : az_mr (cz_H G S f (G.ad 9)) 0 i K = ((0 ≤ i ∧ i < 4 * (G.len : Int)) ∧ K (Int32.ofInt (S 37 (0 + i)))) := by
  rw [cz_F9_at]
  have e : 0 ≤ i ∧ i < 4 * (G.len : Int) → (cz_gr S 37 (4 * G.len) 0) i = Int32.ofInt (S 37 (0 + i)) := fun h => if_pos (by omega)
  exact propext ⟨fun z => ⟨by have := z.1.2; omega, by have h := z.2; rw [e (by have := z.1.2; omega)] at h; exact h⟩, fun z => ⟨⟨rfl, by omega⟩, by show K ((cz_gr S 37 (4 * G.len) 0) i); rw [e z.1]; exact z.2⟩⟩
theorem cz_F9_w {i : Int} {x : Int32} {K : az_C → Prop} : az_mw' (cz_H G S f (G.ad 9)) i x K = ((0 ≤ i ∧ i < 4 * (G.len : Int)) ∧ K (cz_aw (4 * G.len) (cz_gr S 37 (4 * G.len) 0) i x)) := by rw [cz_F9_at]; exact propext ⟨fun z => ⟨by have := z.1.2; omega, z.2⟩, fun z => ⟨⟨rfl, by omega⟩, z.2⟩⟩
theorem cz_F9_u {i : Int} {x : Int32} (h1 : 0 ≤ i) (h2 : i < 4 * (G.len : Int)) : az_uh (cz_H G S f, z) (G.ad 9) (cz_aw (4 * G.len) (cz_gr S 37 (4 * G.len) 0) i x) = (cz_H G (az_up S 37 (0 + i) x.toInt) f, z) := by
  unfold az_uh cz_aw
  refine Prod.ext ?_ rfl
  refine cz_H_up (by omega) (cz_okF 9 (by decide) (by decide)) rfl ?_
  rw [cz_ui_r (by omega)]
  rfl
theorem cz_Qo_at (hb : cz_B G b) : cz_H G S f (cz_aq G b) = az_ia 0 (21) (cz_gr S 5 21 (40 * b)) := (cz_H_at (by omega) hb.2.2.2).trans (cz_c_Q hb.1)
theorem cz_Qo_n (hb : cz_B G b) {K : Int32 → Prop} : az_mn (cz_H G S f (cz_aq G b)) K = K (Int32.ofInt (21)) := by rw [cz_Qo_at hb]; rfl
theorem cz_Qo_r (hb : cz_B G b) {i : Int} {K : Int32 → Prop} : az_mr (cz_H G S f (cz_aq G b)) 0 i K = ((0 ≤ i ∧ i < 21) ∧ K (Int32.ofInt (S 5 (40 * b + i)))) := by
  rw [cz_Qo_at hb]
  have e : 0 ≤ i ∧ i < 21 → (cz_gr S 5 21 (40 * b)) i = Int32.ofInt (S 5 (40 * b + i)) := fun h => if_pos (by omega)
  exact propext ⟨fun z => ⟨by have := z.1.2; omega, by have h := z.2; rw [e (by have := z.1.2; omega)] at h; exact h⟩, fun z => ⟨⟨rfl, by omega⟩, by show K ((cz_gr S 5 21 (40 * b)) i); rw [e z.1]; exact z.2⟩⟩
theorem cz_Qo_w (hb : cz_B G b) {i : Int} {x : Int32} {K : az_C → Prop} : az_mw' (cz_H G S f (cz_aq G b)) i x K = ((0 ≤ i ∧ i < 21) ∧ K (cz_aw (21) (cz_gr S 5 21 (40 * b)) i x)) := by rw [cz_Qo_at hb]; exact propext ⟨fun z => ⟨by have := z.1.2; omega, z.2⟩, fun z => ⟨⟨rfl, by omega⟩, z.2⟩⟩
theorem cz_Qo_u (hb : cz_B G b) {i : Int} {x : Int32} (h1 : 0 ≤ i) (h2 : i < 21) : az_uh (cz_H G S f, z) (cz_aq G b) (cz_aw (21) (cz_gr S 5 21 (40 * b)) i x) = (cz_H G (az_up S 5 (40 * b + i) x.toInt) f, z) := by
  unfold az_uh cz_aw
  refine Prod.ext ?_ rfl
  refine cz_H_up (by omega) (hb.2.2.2) (by have := hb.1; show 48 + ((40 * b + i) / 40).toNat = _; omega) ?_
  rw [cz_ui_r (by omega)]
  exact cz_c_Q hb.1
theorem cz_S1_at (hs : cz_S G s) : cz_H G S f (cz_as G s 1) = az_ia 0 (2) (cz_gr S 12 2 (2 * s)) := (cz_H_at (by omega) (hs.2.2 1 (by decide))).trans (cz_c_S hs.1 (by decide))
theorem cz_S1_n (hs : cz_S G s) {K : Int32 → Prop} : az_mn (cz_H G S f (cz_as G s 1)) K = K (Int32.ofInt (2)) := by rw [cz_S1_at hs]; rfl
theorem cz_S1_r (hs : cz_S G s) {i : Int} {K : Int32 → Prop} : az_mr (cz_H G S f (cz_as G s 1)) 0 i K = ((0 ≤ i ∧ i < 2) ∧ K (Int32.ofInt (S 12 (2 * s + i)))) := by
  rw [cz_S1_at hs]
  have e : 0 ≤ i ∧ i < 2 → (cz_gr S 12 2 (2 * s)) i = Int32.ofInt (S 12 (2 * s + i)) := fun h => if_pos (by omega)
  exact propext ⟨fun z => ⟨by have := z.1.2; omega, by have h := z.2; rw [e (by have := z.1.2; omega)] at h; exact h⟩, fun z => ⟨⟨rfl, by omega⟩, by show K ((cz_gr S 12 2 (2 * s)) i); rw [e z.1]; exact z.2⟩⟩
theorem cz_S1_w (hs : cz_S G s) {i : Int} {x : Int32} {K : az_C → Prop} : az_mw' (cz_H G S f (cz_as G s 1)) i x K = ((0 ≤ i ∧ i < 2) ∧ K (cz_aw (2) (cz_gr S 12 2 (2 * s)) i x)) := by rw [cz_S1_at hs]; exact propext ⟨fun z => ⟨by have := z.1.2; omega, z.2⟩, fun z => ⟨⟨rfl, by omega⟩, z.2⟩⟩
theorem cz_S1_u (hs : cz_S G s) {i : Int} {x : Int32} (h1 : 0 ≤ i) (h2 : i < 2) : az_uh (cz_H G S f, z) (cz_as G s 1) (cz_aw (2) (cz_gr S 12 2 (2 * s)) i x) = (cz_H G (az_up S 12 (2 * s + i) x.toInt) f, z) := by
  unfold az_uh cz_aw
  refine Prod.ext ?_ rfl
  refine cz_H_up (by omega) (hs.2.2 1 (by decide)) (by have := hs.1; show 64 + 8 * ((2 * s + i) / 2).toNat + 1 = _; omega) ?_
  rw [cz_ui_r (by omega)]
  exact cz_c_S hs.1 (by decide)
theorem cz_S2_at (hs : cz_S G s) : cz_H G S f (cz_as G s 2) = az_ia 0 (3) (cz_gr S 14 3 (3 * s)) := (cz_H_at (by omega) (hs.2.2 2 (by decide))).trans (cz_c_S hs.1 (by decide))
theorem cz_S2_n (hs : cz_S G s) {K : Int32 → Prop} : az_mn (cz_H G S f (cz_as G s 2)) K = K (Int32.ofInt (3)) := by rw [cz_S2_at hs]; rfl
theorem cz_S2_r (hs : cz_S G s) {i : Int} {K : Int32 → Prop} : az_mr (cz_H G S f (cz_as G s 2)) 0 i K = ((0 ≤ i ∧ i < 3) ∧ K (Int32.ofInt (S 14 (3 * s + i)))) := by
  rw [cz_S2_at hs]
  have e : 0 ≤ i ∧ i < 3 → (cz_gr S 14 3 (3 * s)) i = Int32.ofInt (S 14 (3 * s + i)) := fun h => if_pos (by omega)
  exact propext ⟨fun z => ⟨by have := z.1.2; omega, by have h := z.2; rw [e (by have := z.1.2; omega)] at h; exact h⟩, fun z => ⟨⟨rfl, by omega⟩, by show K ((cz_gr S 14 3 (3 * s)) i); rw [e z.1]; exact z.2⟩⟩
theorem cz_S2_w (hs : cz_S G s) {i : Int} {x : Int32} {K : az_C → Prop} : az_mw' (cz_H G S f (cz_as G s 2)) i x K = ((0 ≤ i ∧ i < 3) ∧ K (cz_aw (3) (cz_gr S 14 3 (3 * s)) i x)) := by rw [cz_S2_at hs]; exact propext ⟨fun z => ⟨by have := z.1.2; omega, z.2⟩, fun z => ⟨⟨rfl, by omega⟩, z.2⟩⟩
theorem cz_S2_u (hs : cz_S G s) {i : Int} {x : Int32} (h1 : 0 ≤ i) (h2 : i < 3) : az_uh (cz_H G S f, z) (cz_as G s 2) (cz_aw (3) (cz_gr S 14 3 (3 * s)) i x) = (cz_H G (az_up S 14 (3 * s + i) x.toInt) f, z) := by
  unfold az_uh cz_aw
  refine Prod.ext ?_ rfl
  refine cz_H_up (by omega) (hs.2.2 2 (by decide)) (by have := hs.1; show 64 + 8 * ((3 * s + i) / 3).toNat + 2 = _; omega) ?_
  rw [cz_ui_r (by omega)]
  exact cz_c_S hs.1 (by decide)
theorem cz_S3_at (hs : cz_S G s) : cz_H G S f (cz_as G s 3) = az_ia 0 (3) (cz_gr S 15 3 (3 * s)) := (cz_H_at (by omega) (hs.2.2 3 (by decide))).trans (cz_c_S hs.1 (by decide))
theorem cz_S3_n (hs : cz_S G s) {K : Int32 → Prop} : az_mn (cz_H G S f (cz_as G s 3)) K = K (Int32.ofInt (3)) := by rw [cz_S3_at hs]; rfl
theorem cz_S3_r (hs : cz_S G s) {i : Int} {K : Int32 → Prop} : az_mr (cz_H G S f (cz_as G s 3)) 0 i K = ((0 ≤ i ∧ i < 3) ∧ K (Int32.ofInt (S 15 (3 * s + i)))) := by
  rw [cz_S3_at hs]
  have e : 0 ≤ i ∧ i < 3 → (cz_gr S 15 3 (3 * s)) i = Int32.ofInt (S 15 (3 * s + i)) := fun h => if_pos (by omega)
  exact propext ⟨fun z => ⟨by have := z.1.2; omega, by have h := z.2; rw [e (by have := z.1.2; omega)] at h; exact h⟩, fun z => ⟨⟨rfl, by omega⟩, by show K ((cz_gr S 15 3 (3 * s)) i); rw [e z.1]; exact z.2⟩⟩
theorem cz_S3_w (hs : cz_S G s) {i : Int} {x : Int32} {K : az_C → Prop} : az_mw' (cz_H G S f (cz_as G s 3)) i x K = ((0 ≤ i ∧ i < 3) ∧ K (cz_aw (3) (cz_gr S 15 3 (3 * s)) i x)) := by rw [cz_S3_at hs]; exact propext ⟨fun z => ⟨by have := z.1.2; omega, z.2⟩, fun z => ⟨⟨rfl, by omega⟩, z.2⟩⟩
theorem cz_S3_u (hs : cz_S G s) {i : Int} {x : Int32} (h1 : 0 ≤ i) (h2 : i < 3) : az_uh (cz_H G S f, z) (cz_as G s 3) (cz_aw (3) (cz_gr S 15 3 (3 * s)) i x) = (cz_H G (az_up S 15 (3 * s + i) x.toInt) f, z) := by
  unfold az_uh cz_aw
  refine Prod.ext ?_ rfl
  refine cz_H_up (by omega) (hs.2.2 3 (by decide)) (by have := hs.1; show 64 + 8 * ((3 * s + i) / 3).toNat + 3 = _; omega) ?_
  rw [cz_ui_r (by omega)]
  exact cz_c_S hs.1 (by decide)
theorem cz_S4_at (hs : cz_S G s) : cz_H G S f (cz_as G s 4) = az_ia 0 (3) (cz_gr S 16 3 (3 * s)) := (cz_H_at (by omega) (hs.2.2 4 (by decide))).trans (cz_c_S hs.1 (by decide))
theorem cz_S4_n (hs : cz_S G s) {K : Int32 → Prop} : az_mn (cz_H G S f (cz_as G s 4)) K = K (Int32.ofInt (3)) := by rw [cz_S4_at hs]; rfl
theorem cz_S4_r (hs : cz_S G s) {i : Int} {K : Int32 → Prop} : az_mr (cz_H G S f (cz_as G s 4)) 0 i K = ((0 ≤ i ∧ i < 3) ∧ K (Int32.ofInt (S 16 (3 * s + i)))) := by
  rw [cz_S4_at hs]
  have e : 0 ≤ i ∧ i < 3 → (cz_gr S 16 3 (3 * s)) i = Int32.ofInt (S 16 (3 * s + i)) := fun h => if_pos (by omega)
  exact propext ⟨fun z => ⟨by have := z.1.2; omega, by have h := z.2; rw [e (by have := z.1.2; omega)] at h; exact h⟩, fun z => ⟨⟨rfl, by omega⟩, by show K ((cz_gr S 16 3 (3 * s)) i); rw [e z.1]; exact z.2⟩⟩
theorem cz_S4_w (hs : cz_S G s) {i : Int} {x : Int32} {K : az_C → Prop} : az_mw' (cz_H G S f (cz_as G s 4)) i x K = ((0 ≤ i ∧ i < 3) ∧ K (cz_aw (3) (cz_gr S 16 3 (3 * s)) i x)) := by rw [cz_S4_at hs]; exact propext ⟨fun z => ⟨by have := z.1.2; omega, z.2⟩, fun z => ⟨⟨rfl, by omega⟩, z.2⟩⟩
theorem cz_S4_u (hs : cz_S G s) {i : Int} {x : Int32} (h1 : 0 ≤ i) (h2 : i < 3) : az_uh (cz_H G S f, z) (cz_as G s 4) (cz_aw (3) (cz_gr S 16 3 (3 * s)) i x) = (cz_H G (az_up S 16 (3 * s + i) x.toInt) f, z) := by
  unfold az_uh cz_aw
  refine Prod.ext ?_ rfl
  refine cz_H_up (by omega) (hs.2.2 4 (by decide)) (by have := hs.1; show 64 + 8 * ((3 * s + i) / 3).toNat + 4 = _; omega) ?_
  rw [cz_ui_r (by omega)]
  exact cz_c_S hs.1 (by decide)
theorem cz_S6_at (hs : cz_S G s) : cz_H G S f (cz_as G s 6) = az_ia 0 (3) (cz_gr S 109 3 (3 * s)) := (cz_H_at (by omega) (hs.2.2 6 (by decide))).trans (cz_c_S hs.1 (by decide))
theorem cz_S6_n (hs : cz_S G s) {K : Int32 → Prop} : az_mn (cz_H G S f (cz_as G s 6)) K = K (Int32.ofInt (3)) := by rw [cz_S6_at hs]; rfl
theorem cz_S6_r (hs : cz_S G s) {i : Int} {K : Int32 → Prop} : az_mr (cz_H G S f (cz_as G s 6)) 0 i K = ((0 ≤ i ∧ i < 3) ∧ K (Int32.ofInt (S 109 (3 * s + i)))) := by
  rw [cz_S6_at hs]
  have e : 0 ≤ i ∧ i < 3 → (cz_gr S 109 3 (3 * s)) i = Int32.ofInt (S 109 (3 * s + i)) := fun h => if_pos (by omega)
  exact propext ⟨fun z => ⟨by have := z.1.2; omega, by have h := z.2; rw [e (by have := z.1.2; omega)] at h; exact h⟩, fun z => ⟨⟨rfl, by omega⟩, by show K ((cz_gr S 109 3 (3 * s)) i); rw [e z.1]; exact z.2⟩⟩
theorem cz_S6_w (hs : cz_S G s) {i : Int} {x : Int32} {K : az_C → Prop} : az_mw' (cz_H G S f (cz_as G s 6)) i x K = ((0 ≤ i ∧ i < 3) ∧ K (cz_aw (3) (cz_gr S 109 3 (3 * s)) i x)) := by rw [cz_S6_at hs]; exact propext ⟨fun z => ⟨by have := z.1.2; omega, z.2⟩, fun z => ⟨⟨rfl, by omega⟩, z.2⟩⟩
theorem cz_S6_u (hs : cz_S G s) {i : Int} {x : Int32} (h1 : 0 ≤ i) (h2 : i < 3) : az_uh (cz_H G S f, z) (cz_as G s 6) (cz_aw (3) (cz_gr S 109 3 (3 * s)) i x) = (cz_H G (az_up S 109 (3 * s + i) x.toInt) f, z) := by
  unfold az_uh cz_aw
  refine Prod.ext ?_ rfl
  refine cz_H_up (by omega) (hs.2.2 6 (by decide)) (by have := hs.1; show 64 + 8 * ((3 * s + i) / 3).toNat + 6 = _; omega) ?_
  rw [cz_ui_r (by omega)]
  exact cz_c_S hs.1 (by decide)
theorem cz_S7_at (hs : cz_S G s) : cz_H G S f (cz_as G s 7) = az_ia 0 (10) (cz_gr S 27 10 (10 * s)) := (cz_H_at (by omega) (hs.2.2 7 (by decide))).trans (cz_c_S hs.1 (by decide))
theorem cz_S7_n (hs : cz_S G s) {K : Int32 → Prop} : az_mn (cz_H G S f (cz_as G s 7)) K = K (Int32.ofInt (10)) := by rw [cz_S7_at hs]; rfl
theorem cz_S7_r (hs : cz_S G s) {i : Int} {K : Int32 → Prop} : az_mr (cz_H G S f (cz_as G s 7)) 0 i K = ((0 ≤ i ∧ i < 10) ∧ K (Int32.ofInt (S 27 (10 * s + i)))) := by
  rw [cz_S7_at hs]
  have e : 0 ≤ i ∧ i < 10 → (cz_gr S 27 10 (10 * s)) i = Int32.ofInt (S 27 (10 * s + i)) := fun h => if_pos (by omega)
  exact propext ⟨fun z => ⟨by have := z.1.2; omega, by have h := z.2; rw [e (by have := z.1.2; omega)] at h; exact h⟩, fun z => ⟨⟨rfl, by omega⟩, by show K ((cz_gr S 27 10 (10 * s)) i); rw [e z.1]; exact z.2⟩⟩
theorem cz_S7_w (hs : cz_S G s) {i : Int} {x : Int32} {K : az_C → Prop} : az_mw' (cz_H G S f (cz_as G s 7)) i x K = ((0 ≤ i ∧ i < 10) ∧ K (cz_aw (10) (cz_gr S 27 10 (10 * s)) i x)) := by rw [cz_S7_at hs]; exact propext ⟨fun z => ⟨by have := z.1.2; omega, z.2⟩, fun z => ⟨⟨rfl, by omega⟩, z.2⟩⟩
theorem cz_S7_u (hs : cz_S G s) {i : Int} {x : Int32} (h1 : 0 ≤ i) (h2 : i < 10) : az_uh (cz_H G S f, z) (cz_as G s 7) (cz_aw (10) (cz_gr S 27 10 (10 * s)) i x) = (cz_H G (az_up S 27 (10 * s + i) x.toInt) f, z) := by
  unfold az_uh cz_aw
  refine Prod.ext ?_ rfl
  refine cz_H_up (by omega) (hs.2.2 7 (by decide)) (by have := hs.1; show 64 + 8 * ((10 * s + i) / 10).toNat + 7 = _; omega) ?_
  rw [cz_ui_r (by omega)]
  exact cz_c_S hs.1 (by decide)
theorem cz_F3_r {i : Int} {K : Value → Prop} : az_mra (cz_H G S f (G.ad 3)) i K = ((0 ≤ i ∧ i < 16) ∧ K (va_rf (cz_bo G i))) := by rw [show cz_H G S f (G.ad 3) = az_ra 0 16 (cz_bo G) from cz_H_at (by decide) (cz_okF 3 (by decide) (by decide))]; exact propext ⟨fun z => ⟨z.1.2, z.2⟩, fun z => ⟨⟨(by decide), z.1⟩, z.2⟩⟩
theorem cz_F3_n {K : Int32 → Prop} : az_mn (cz_H G S f (G.ad 3)) K = K (Int32.ofInt 16) := by rw [show cz_H G S f (G.ad 3) = az_ra 0 16 (cz_bo G) from cz_H_at (by decide) (cz_okF 3 (by decide) (by decide))]; rfl
theorem cz_F4_r {i : Int} {K : Value → Prop} : az_mra (cz_H G S f (G.ad 4)) i K = ((0 ≤ i ∧ i < 12) ∧ K (va_rf (cz_so G i))) := by rw [show cz_H G S f (G.ad 4) = az_ra 1 12 (cz_so G) from cz_H_at (by decide) (cz_okF 4 (by decide) (by decide))]; exact propext ⟨fun z => ⟨z.1.2, z.2⟩, fun z => ⟨⟨(by decide), z.1⟩, z.2⟩⟩
theorem cz_F4_n {K : Int32 → Prop} : az_mn (cz_H G S f (G.ad 4)) K = K (Int32.ofInt 12) := by rw [show cz_H G S f (G.ad 4) = az_ra 1 12 (cz_so G) from cz_H_at (by decide) (cz_okF 4 (by decide) (by decide))]; rfl
theorem cz_bo_y {i : Int} (h : G.tb i = true) : va_rf (cz_bo G i) = .ref (cz_ab G i) := by unfold cz_bo; rw [if_pos h]; rfl
theorem cz_bo_n {i : Int} (h : ¬ G.tb i = true) : va_rf (cz_bo G i) = .null := by unfold cz_bo; rw [if_neg h]; rfl
theorem cz_so_y {i : Int} (h : G.ts i = true) : va_rf (cz_so G i) = .ref (cz_as G i 0) := by unfold cz_so; rw [if_pos h]; rfl
theorem cz_so_n {i : Int} (h : ¬ G.ts i = true) : va_rf (cz_so G i) = .null := by unfold cz_so; rw [if_neg h]; rfl
end CzR
